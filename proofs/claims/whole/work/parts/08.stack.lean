/-! WHAT RUNS ON THE MACHINE RUNS SO ON THE JVM: instructions on the stack and the locals -/
theorem pm_E_x {G : pm_G} {X : (Nat → Int32) × Nat} {p : Program} {l : Launch} {s : State} (h : pm_E G X p l s) : p.tables.exec = Jvm.exec := h.1
theorem pm_E_tr {G : pm_G} {X : (Nat → Int32) × Nat} {p : Program} {l : Launch} {s : State} (h : pm_E G X p l s) : l.stackTraces = false := h.2.1
theorem pm_E_K {G : pm_G} {X : (Nat → Int32) × Nat} {p : Program} {l : Launch} {s : State} (h : pm_E G X p l s) : va_K (pm_D G) vwCl (pm_tys G) s := h.2.2.2.2.2.2.2.2.1
theorem pm_E_S {G : pm_G} {X : (Nat → Int32) × Nat} {p : Program} {l : Launch} {s : State} (h : pm_E G X p l s) : vk_S pm_tx.length (pm_tx.map List.length) (pm_tx.map (fun t => t.map nI)) (pm_aK G) (pm_aV G) (pm_A G) s (pm_h0 G) := h.2.2.2.2.2.2.2.2.2.2.1
theorem pm_E_F {G : pm_G} {X : (Nat → Int32) × Nat} {p : Program} {l : Launch} {s : State} (h : pm_E G X p l s) : (pm_vF G).isRef = true := h.2.2.2.2.2.2.2.2.2.2.2.2.2.1
theorem pm_E_scr {G : pm_G} {X : (Nat → Int32) × Nat} {p : Program} {l : Launch} {s : State} (h : pm_E G X p l s) : va_X (pm_scr G) X.2 X.1 s (pm_h0 G) := h.2.2.2.2.2.2.2.2.2.2.2.2.2.2.2.2.1
theorem pm_E_lt {G : pm_G} {X : (Nat → Int32) × Nat} {p : Program} {l : Launch} {s : State} (h : pm_E G X p l s) : pm_scr G < pm_base G := h.2.2.2.2.2.2.2.2.2.2.2.2.2.2.2.2.2.1
theorem pm_E_sz {G : pm_G} {X : (Nat → Int32) × Nat} {p : Program} {l : Launch} {s : State} (h : pm_E G X p l s) : (pm_h0 G).size = pm_base G := h.2.2.2.2.2.2.2.2.2.2.2.2.2.2.2.2.2.2
theorem pm_E_w {G : pm_G} {X : (Nat → Int32) × Nat} {p : Program} {l : Launch} {s : State} (h : pm_E G X p l s) {w : Cond} (hw : w ∈ lw_tbl) (hg : goodWord w = true) {args : Array Value} : w.before args s = true := h.2.2.1 w hw hg args
/-- the instruction is sound -/
def pm_Ok (G : pm_G) (X : (Nat → Int32) × Nat) (ins : Instr) : Prop := ∀ (d m pc : Nat) (L S : List Value) (μ : pm_M) (Q : pm_Q) (n pc' : Nat) (L' S' : List Value) (μ' : pm_M), pm_code m pc = some (ins, n) → pm_step X (pm_k m) (pm_ini m) ins pc n L S μ = some (pc', L', S', μ') → pm_B G X d m pc' L' S' μ' Q → pm_B G X d m pc L S μ Q
set_option maxRecDepth 4000 in
theorem ps_iconst (G : pm_G) (X : (Nat → Int32) × Nat) (i : Int) : pm_Ok G X (.iconst i) := by
  intro d m pc L S μ Q n pc' L' S' μ' hc hs K
  obtain ⟨k0, hd, hk0, rfl⟩ := pm_dec hc
  obtain rfl : k0 = 1 := hk0
  simp only [pm_step] at hs
  cases hs
  intro p l e R s mid args below meth c H locs cells slots ls C1 C2 hE hm h1 h2 h3 h4 h5 h6 h7 h8 h9 h10 h11
  exact lv_iconst (pm_E_x hE) hm.1 hd rfl (K p l e R s mid args below meth c H locs cells slots ls C1 C2 hE hm h1 h2 h3 h4 h5 h6 h7 h8 h9 h10 h11)

set_option maxRecDepth 4000 in
theorem ps_bipush (G : pm_G) (X : (Nat → Int32) × Nat) (i : Int) : pm_Ok G X (.bipush i) := by
  intro d m pc L S μ Q n pc' L' S' μ' hc hs K
  obtain ⟨k0, hd, hk0, rfl⟩ := pm_dec hc
  obtain rfl : k0 = 2 := hk0
  simp only [pm_step] at hs
  cases hs
  intro p l e R s mid args below meth c H locs cells slots ls C1 C2 hE hm h1 h2 h3 h4 h5 h6 h7 h8 h9 h10 h11
  exact lv_bipush (pm_E_x hE) hm.1 hd rfl (K p l e R s mid args below meth c H locs cells slots ls C1 C2 hE hm h1 h2 h3 h4 h5 h6 h7 h8 h9 h10 h11)

set_option maxRecDepth 4000 in
theorem ps_sipush (G : pm_G) (X : (Nat → Int32) × Nat) (i : Int) : pm_Ok G X (.sipush i) := by
  intro d m pc L S μ Q n pc' L' S' μ' hc hs K
  obtain ⟨k0, hd, hk0, rfl⟩ := pm_dec hc
  obtain rfl : k0 = 3 := hk0
  simp only [pm_step] at hs
  cases hs
  intro p l e R s mid args below meth c H locs cells slots ls C1 C2 hE hm h1 h2 h3 h4 h5 h6 h7 h8 h9 h10 h11
  exact lv_sipush (pm_E_x hE) hm.1 hd rfl (K p l e R s mid args below meth c H locs cells slots ls C1 C2 hE hm h1 h2 h3 h4 h5 h6 h7 h8 h9 h10 h11)

set_option maxRecDepth 4000 in
theorem ps_lconst (G : pm_G) (X : (Nat → Int32) × Nat) (i : Fin 2) : pm_Ok G X (.lconst i) := by
  intro d m pc L S μ Q n pc' L' S' μ' hc hs K
  obtain ⟨k0, hd, hk0, rfl⟩ := pm_dec hc
  obtain rfl : k0 = 1 := hk0
  simp only [pm_step] at hs
  cases hs
  intro p l e R s mid args below meth c H locs cells slots ls C1 C2 hE hm h1 h2 h3 h4 h5 h6 h7 h8 h9 h10 h11
  exact lv_lconst (pm_E_x hE) hm.1 hd rfl (K p l e R s mid args below meth c H locs cells slots ls C1 C2 hE hm h1 h2 h3 h4 h5 h6 h7 h8 h9 h10 h11)

set_option maxRecDepth 4000 in
theorem ps_iadd (G : pm_G) (X : (Nat → Int32) × Nat) : pm_Ok G X (.iadd) := by
  intro d m pc L S μ Q n pc' L' S' μ' hc hs K
  obtain ⟨k0, hd, hk0, rfl⟩ := pm_dec hc
  obtain rfl : k0 = 1 := hk0
  simp only [pm_step, pm_ii] at hs
  split at hs
  · cases hs
    intro p l e R s mid args below meth c H locs cells slots ls C1 C2 hE hm h1 h2 h3 h4 h5 h6 h7 h8 h9 h10 h11
    exact lv_iadd (pm_E_x hE) hm.1 hd (K p l e R s mid args below meth c H locs cells slots ls C1 C2 hE hm h1 h2 h3 h4 h5 h6 h7 h8 h9 h10 h11)
  · cases hs

set_option maxRecDepth 4000 in
theorem ps_isub (G : pm_G) (X : (Nat → Int32) × Nat) : pm_Ok G X (.isub) := by
  intro d m pc L S μ Q n pc' L' S' μ' hc hs K
  obtain ⟨k0, hd, hk0, rfl⟩ := pm_dec hc
  obtain rfl : k0 = 1 := hk0
  simp only [pm_step, pm_ii] at hs
  split at hs
  · cases hs
    intro p l e R s mid args below meth c H locs cells slots ls C1 C2 hE hm h1 h2 h3 h4 h5 h6 h7 h8 h9 h10 h11
    exact lv_isub (pm_E_x hE) hm.1 hd (K p l e R s mid args below meth c H locs cells slots ls C1 C2 hE hm h1 h2 h3 h4 h5 h6 h7 h8 h9 h10 h11)
  · cases hs

set_option maxRecDepth 4000 in
theorem ps_imul (G : pm_G) (X : (Nat → Int32) × Nat) : pm_Ok G X (.imul) := by
  intro d m pc L S μ Q n pc' L' S' μ' hc hs K
  obtain ⟨k0, hd, hk0, rfl⟩ := pm_dec hc
  obtain rfl : k0 = 1 := hk0
  simp only [pm_step, pm_ii] at hs
  split at hs
  · cases hs
    intro p l e R s mid args below meth c H locs cells slots ls C1 C2 hE hm h1 h2 h3 h4 h5 h6 h7 h8 h9 h10 h11
    exact lv_imul (pm_E_x hE) hm.1 hd (K p l e R s mid args below meth c H locs cells slots ls C1 C2 hE hm h1 h2 h3 h4 h5 h6 h7 h8 h9 h10 h11)
  · cases hs

set_option maxRecDepth 4000 in
theorem ps_iand (G : pm_G) (X : (Nat → Int32) × Nat) : pm_Ok G X (.iand) := by
  intro d m pc L S μ Q n pc' L' S' μ' hc hs K
  obtain ⟨k0, hd, hk0, rfl⟩ := pm_dec hc
  obtain rfl : k0 = 1 := hk0
  simp only [pm_step, pm_ii] at hs
  split at hs
  · cases hs
    intro p l e R s mid args below meth c H locs cells slots ls C1 C2 hE hm h1 h2 h3 h4 h5 h6 h7 h8 h9 h10 h11
    exact lv_iand (pm_E_x hE) hm.1 hd (K p l e R s mid args below meth c H locs cells slots ls C1 C2 hE hm h1 h2 h3 h4 h5 h6 h7 h8 h9 h10 h11)
  · cases hs

set_option maxRecDepth 4000 in
theorem ps_ior (G : pm_G) (X : (Nat → Int32) × Nat) : pm_Ok G X (.ior) := by
  intro d m pc L S μ Q n pc' L' S' μ' hc hs K
  obtain ⟨k0, hd, hk0, rfl⟩ := pm_dec hc
  obtain rfl : k0 = 1 := hk0
  simp only [pm_step, pm_ii] at hs
  split at hs
  · cases hs
    intro p l e R s mid args below meth c H locs cells slots ls C1 C2 hE hm h1 h2 h3 h4 h5 h6 h7 h8 h9 h10 h11
    exact lv_ior (pm_E_x hE) hm.1 hd (K p l e R s mid args below meth c H locs cells slots ls C1 C2 hE hm h1 h2 h3 h4 h5 h6 h7 h8 h9 h10 h11)
  · cases hs

set_option maxRecDepth 4000 in
theorem ps_ishl (G : pm_G) (X : (Nat → Int32) × Nat) : pm_Ok G X (.ishl) := by
  intro d m pc L S μ Q n pc' L' S' μ' hc hs K
  obtain ⟨k0, hd, hk0, rfl⟩ := pm_dec hc
  obtain rfl : k0 = 1 := hk0
  simp only [pm_step, pm_ii] at hs
  split at hs
  · cases hs
    intro p l e R s mid args below meth c H locs cells slots ls C1 C2 hE hm h1 h2 h3 h4 h5 h6 h7 h8 h9 h10 h11
    exact lv_ishl (pm_E_x hE) hm.1 hd (K p l e R s mid args below meth c H locs cells slots ls C1 C2 hE hm h1 h2 h3 h4 h5 h6 h7 h8 h9 h10 h11)
  · cases hs

set_option maxRecDepth 4000 in
theorem ps_ishr (G : pm_G) (X : (Nat → Int32) × Nat) : pm_Ok G X (.ishr) := by
  intro d m pc L S μ Q n pc' L' S' μ' hc hs K
  obtain ⟨k0, hd, hk0, rfl⟩ := pm_dec hc
  obtain rfl : k0 = 1 := hk0
  simp only [pm_step, pm_ii] at hs
  split at hs
  · cases hs
    intro p l e R s mid args below meth c H locs cells slots ls C1 C2 hE hm h1 h2 h3 h4 h5 h6 h7 h8 h9 h10 h11
    exact lv_ishr (pm_E_x hE) hm.1 hd (K p l e R s mid args below meth c H locs cells slots ls C1 C2 hE hm h1 h2 h3 h4 h5 h6 h7 h8 h9 h10 h11)
  · cases hs

set_option maxRecDepth 4000 in
theorem ps_iushr (G : pm_G) (X : (Nat → Int32) × Nat) : pm_Ok G X (.iushr) := by
  intro d m pc L S μ Q n pc' L' S' μ' hc hs K
  obtain ⟨k0, hd, hk0, rfl⟩ := pm_dec hc
  obtain rfl : k0 = 1 := hk0
  simp only [pm_step, pm_ii] at hs
  split at hs
  · cases hs
    intro p l e R s mid args below meth c H locs cells slots ls C1 C2 hE hm h1 h2 h3 h4 h5 h6 h7 h8 h9 h10 h11
    exact lv_iushr (pm_E_x hE) hm.1 hd rfl (K p l e R s mid args below meth c H locs cells slots ls C1 C2 hE hm h1 h2 h3 h4 h5 h6 h7 h8 h9 h10 h11)
  · cases hs

set_option maxRecDepth 4000 in
theorem ps_ladd (G : pm_G) (X : (Nat → Int32) × Nat) : pm_Ok G X (.ladd) := by
  intro d m pc L S μ Q n pc' L' S' μ' hc hs K
  obtain ⟨k0, hd, hk0, rfl⟩ := pm_dec hc
  obtain rfl : k0 = 1 := hk0
  simp only [pm_step, pm_ll] at hs
  split at hs
  · cases hs
    intro p l e R s mid args below meth c H locs cells slots ls C1 C2 hE hm h1 h2 h3 h4 h5 h6 h7 h8 h9 h10 h11
    exact lv_ladd (pm_E_x hE) hm.1 hd (K p l e R s mid args below meth c H locs cells slots ls C1 C2 hE hm h1 h2 h3 h4 h5 h6 h7 h8 h9 h10 h11)
  · cases hs

set_option maxRecDepth 4000 in
theorem ps_lsub (G : pm_G) (X : (Nat → Int32) × Nat) : pm_Ok G X (.lsub) := by
  intro d m pc L S μ Q n pc' L' S' μ' hc hs K
  obtain ⟨k0, hd, hk0, rfl⟩ := pm_dec hc
  obtain rfl : k0 = 1 := hk0
  simp only [pm_step, pm_ll] at hs
  split at hs
  · cases hs
    intro p l e R s mid args below meth c H locs cells slots ls C1 C2 hE hm h1 h2 h3 h4 h5 h6 h7 h8 h9 h10 h11
    exact lv_lsub (pm_E_x hE) hm.1 hd (K p l e R s mid args below meth c H locs cells slots ls C1 C2 hE hm h1 h2 h3 h4 h5 h6 h7 h8 h9 h10 h11)
  · cases hs

set_option maxRecDepth 4000 in
theorem ps_lmul (G : pm_G) (X : (Nat → Int32) × Nat) : pm_Ok G X (.lmul) := by
  intro d m pc L S μ Q n pc' L' S' μ' hc hs K
  obtain ⟨k0, hd, hk0, rfl⟩ := pm_dec hc
  obtain rfl : k0 = 1 := hk0
  simp only [pm_step, pm_ll] at hs
  split at hs
  · cases hs
    intro p l e R s mid args below meth c H locs cells slots ls C1 C2 hE hm h1 h2 h3 h4 h5 h6 h7 h8 h9 h10 h11
    exact lv_lmul (pm_E_x hE) hm.1 hd (K p l e R s mid args below meth c H locs cells slots ls C1 C2 hE hm h1 h2 h3 h4 h5 h6 h7 h8 h9 h10 h11)
  · cases hs

set_option maxRecDepth 4000 in
theorem ps_land (G : pm_G) (X : (Nat → Int32) × Nat) : pm_Ok G X (.land) := by
  intro d m pc L S μ Q n pc' L' S' μ' hc hs K
  obtain ⟨k0, hd, hk0, rfl⟩ := pm_dec hc
  obtain rfl : k0 = 1 := hk0
  simp only [pm_step, pm_ll] at hs
  split at hs
  · cases hs
    intro p l e R s mid args below meth c H locs cells slots ls C1 C2 hE hm h1 h2 h3 h4 h5 h6 h7 h8 h9 h10 h11
    exact lv_land (pm_E_x hE) hm.1 hd (K p l e R s mid args below meth c H locs cells slots ls C1 C2 hE hm h1 h2 h3 h4 h5 h6 h7 h8 h9 h10 h11)
  · cases hs

set_option maxRecDepth 4000 in
theorem ps_lshl (G : pm_G) (X : (Nat → Int32) × Nat) : pm_Ok G X (.lshl) := by
  intro d m pc L S μ Q n pc' L' S' μ' hc hs K
  obtain ⟨k0, hd, hk0, rfl⟩ := pm_dec hc
  obtain rfl : k0 = 1 := hk0
  simp only [pm_step, pm_li] at hs
  split at hs
  · cases hs
    intro p l e R s mid args below meth c H locs cells slots ls C1 C2 hE hm h1 h2 h3 h4 h5 h6 h7 h8 h9 h10 h11
    exact lv_lshl (pm_E_x hE) hm.1 hd rfl (K p l e R s mid args below meth c H locs cells slots ls C1 C2 hE hm h1 h2 h3 h4 h5 h6 h7 h8 h9 h10 h11)
  · cases hs

set_option maxRecDepth 4000 in
theorem ps_lshr (G : pm_G) (X : (Nat → Int32) × Nat) : pm_Ok G X (.lshr) := by
  intro d m pc L S μ Q n pc' L' S' μ' hc hs K
  obtain ⟨k0, hd, hk0, rfl⟩ := pm_dec hc
  obtain rfl : k0 = 1 := hk0
  simp only [pm_step, pm_li] at hs
  split at hs
  · cases hs
    intro p l e R s mid args below meth c H locs cells slots ls C1 C2 hE hm h1 h2 h3 h4 h5 h6 h7 h8 h9 h10 h11
    exact lv_lshr (pm_E_x hE) hm.1 hd rfl (K p l e R s mid args below meth c H locs cells slots ls C1 C2 hE hm h1 h2 h3 h4 h5 h6 h7 h8 h9 h10 h11)
  · cases hs

set_option maxRecDepth 4000 in
theorem ps_lcmp (G : pm_G) (X : (Nat → Int32) × Nat) : pm_Ok G X (.lcmp) := by
  intro d m pc L S μ Q n pc' L' S' μ' hc hs K
  obtain ⟨k0, hd, hk0, rfl⟩ := pm_dec hc
  obtain rfl : k0 = 1 := hk0
  simp only [pm_step] at hs
  split at hs
  · cases hs
    intro p l e R s mid args below meth c H locs cells slots ls C1 C2 hE hm h1 h2 h3 h4 h5 h6 h7 h8 h9 h10 h11
    exact W.lcmp (pm_E_x hE) hm.1 hd (K p l e R s mid args below meth c H locs cells slots ls C1 C2 hE hm h1 h2 h3 h4 h5 h6 h7 h8 h9 h10 h11)
  · cases hs

set_option maxRecDepth 4000 in
theorem ps_lneg (G : pm_G) (X : (Nat → Int32) × Nat) : pm_Ok G X (.lneg) := by
  intro d m pc L S μ Q n pc' L' S' μ' hc hs K
  obtain ⟨k0, hd, hk0, rfl⟩ := pm_dec hc
  obtain rfl : k0 = 1 := hk0
  simp only [pm_step] at hs
  split at hs
  · cases hs
    intro p l e R s mid args below meth c H locs cells slots ls C1 C2 hE hm h1 h2 h3 h4 h5 h6 h7 h8 h9 h10 h11
    exact lv_lneg (pm_E_x hE) hm.1 hd (K p l e R s mid args below meth c H locs cells slots ls C1 C2 hE hm h1 h2 h3 h4 h5 h6 h7 h8 h9 h10 h11)
  · cases hs

set_option maxRecDepth 4000 in
theorem ps_i2l (G : pm_G) (X : (Nat → Int32) × Nat) : pm_Ok G X (.i2l) := by
  intro d m pc L S μ Q n pc' L' S' μ' hc hs K
  obtain ⟨k0, hd, hk0, rfl⟩ := pm_dec hc
  obtain rfl : k0 = 1 := hk0
  simp only [pm_step] at hs
  split at hs
  · cases hs
    intro p l e R s mid args below meth c H locs cells slots ls C1 C2 hE hm h1 h2 h3 h4 h5 h6 h7 h8 h9 h10 h11
    exact lv_i2l (pm_E_x hE) hm.1 hd rfl (K p l e R s mid args below meth c H locs cells slots ls C1 C2 hE hm h1 h2 h3 h4 h5 h6 h7 h8 h9 h10 h11)
  · cases hs

set_option maxRecDepth 4000 in
theorem ps_l2i (G : pm_G) (X : (Nat → Int32) × Nat) : pm_Ok G X (.l2i) := by
  intro d m pc L S μ Q n pc' L' S' μ' hc hs K
  obtain ⟨k0, hd, hk0, rfl⟩ := pm_dec hc
  obtain rfl : k0 = 1 := hk0
  simp only [pm_step] at hs
  split at hs
  · cases hs
    intro p l e R s mid args below meth c H locs cells slots ls C1 C2 hE hm h1 h2 h3 h4 h5 h6 h7 h8 h9 h10 h11
    exact lv_l2i (pm_E_x hE) hm.1 hd rfl (K p l e R s mid args below meth c H locs cells slots ls C1 C2 hE hm h1 h2 h3 h4 h5 h6 h7 h8 h9 h10 h11)
  · cases hs

set_option maxRecDepth 4000 in
theorem ps_i2c (G : pm_G) (X : (Nat → Int32) × Nat) : pm_Ok G X (.i2c) := by
  intro d m pc L S μ Q n pc' L' S' μ' hc hs K
  obtain ⟨k0, hd, hk0, rfl⟩ := pm_dec hc
  obtain rfl : k0 = 1 := hk0
  simp only [pm_step] at hs
  split at hs
  · cases hs
    intro p l e R s mid args below meth c H locs cells slots ls C1 C2 hE hm h1 h2 h3 h4 h5 h6 h7 h8 h9 h10 h11
    exact lv_i2c (pm_E_x hE) hm.1 hd rfl (K p l e R s mid args below meth c H locs cells slots ls C1 C2 hE hm h1 h2 h3 h4 h5 h6 h7 h8 h9 h10 h11)
  · cases hs

set_option maxRecDepth 4000 in
theorem ps_idiv (G : pm_G) (X : (Nat → Int32) × Nat) : pm_Ok G X (.idiv) := by
  intro d m pc L S μ Q n pc' L' S' μ' hc hs K
  obtain ⟨k0, hd, hk0, rfl⟩ := pm_dec hc
  obtain rfl : k0 = 1 := hk0
  simp only [pm_step, pm_id] at hs
  split at hs
  · split at hs
    · cases hs
    · rename_i hne
      cases hs
      intro p l e R s mid args below meth c H locs cells slots ls C1 C2 hE hm h1 h2 h3 h4 h5 h6 h7 h8 h9 h10 h11
      exact lv_idiv (pm_E_x hE) hm.1 hd hne (K p l e R s mid args below meth c H locs cells slots ls C1 C2 hE hm h1 h2 h3 h4 h5 h6 h7 h8 h9 h10 h11)
  · cases hs

set_option maxRecDepth 4000 in
theorem ps_irem (G : pm_G) (X : (Nat → Int32) × Nat) : pm_Ok G X (.irem) := by
  intro d m pc L S μ Q n pc' L' S' μ' hc hs K
  obtain ⟨k0, hd, hk0, rfl⟩ := pm_dec hc
  obtain rfl : k0 = 1 := hk0
  simp only [pm_step, pm_id] at hs
  split at hs
  · split at hs
    · cases hs
    · rename_i hne
      cases hs
      intro p l e R s mid args below meth c H locs cells slots ls C1 C2 hE hm h1 h2 h3 h4 h5 h6 h7 h8 h9 h10 h11
      exact lv_irem (pm_E_x hE) hm.1 hd hne (K p l e R s mid args below meth c H locs cells slots ls C1 C2 hE hm h1 h2 h3 h4 h5 h6 h7 h8 h9 h10 h11)
  · cases hs

set_option maxRecDepth 4000 in
theorem ps_ldiv (G : pm_G) (X : (Nat → Int32) × Nat) : pm_Ok G X (.ldiv) := by
  intro d m pc L S μ Q n pc' L' S' μ' hc hs K
  obtain ⟨k0, hd, hk0, rfl⟩ := pm_dec hc
  obtain rfl : k0 = 1 := hk0
  simp only [pm_step, pm_ldv] at hs
  split at hs
  · split at hs
    · cases hs
    · rename_i hne
      cases hs
      intro p l e R s mid args below meth c H locs cells slots ls C1 C2 hE hm h1 h2 h3 h4 h5 h6 h7 h8 h9 h10 h11
      exact lv_ldiv (pm_E_x hE) hm.1 hd hne (K p l e R s mid args below meth c H locs cells slots ls C1 C2 hE hm h1 h2 h3 h4 h5 h6 h7 h8 h9 h10 h11)
  · cases hs

set_option maxRecDepth 4000 in
theorem ps_lrem (G : pm_G) (X : (Nat → Int32) × Nat) : pm_Ok G X (.lrem) := by
  intro d m pc L S μ Q n pc' L' S' μ' hc hs K
  obtain ⟨k0, hd, hk0, rfl⟩ := pm_dec hc
  obtain rfl : k0 = 1 := hk0
  simp only [pm_step, pm_ldv] at hs
  split at hs
  · split at hs
    · cases hs
    · rename_i hne
      cases hs
      intro p l e R s mid args below meth c H locs cells slots ls C1 C2 hE hm h1 h2 h3 h4 h5 h6 h7 h8 h9 h10 h11
      exact lv_lrem (pm_E_x hE) hm.1 hd hne (K p l e R s mid args below meth c H locs cells slots ls C1 C2 hE hm h1 h2 h3 h4 h5 h6 h7 h8 h9 h10 h11)
  · cases hs

set_option maxRecDepth 4000 in
theorem ps_dup (G : pm_G) (X : (Nat → Int32) × Nat) : pm_Ok G X (.dup) := by
  intro d m pc L S μ Q n pc' L' S' μ' hc hs K
  obtain ⟨k0, hd, hk0, rfl⟩ := pm_dec hc
  obtain rfl : k0 = 1 := hk0
  simp only [pm_step, pm_dp] at hs
  split at hs
  · split at hs
    · rename_i hcat
      cases hs
      intro p l e R s mid args below meth c H locs cells slots ls C1 C2 hE hm h1 h2 h3 h4 h5 h6 h7 h8 h9 h10 h11
      exact lv_dup (pm_E_x hE) hm.1 hd ((pm_v_cat (pm_E_F hE) _).trans hcat) (K p l e R s mid args below meth c H locs cells slots ls C1 C2 hE hm h1 h2 h3 h4 h5 h6 h7 h8 h9 h10 h11)
    · cases hs
  · cases hs

set_option maxRecDepth 4000 in
theorem ps_pop (G : pm_G) (X : (Nat → Int32) × Nat) : pm_Ok G X (.pop) := by
  intro d m pc L S μ Q n pc' L' S' μ' hc hs K
  obtain ⟨k0, hd, hk0, rfl⟩ := pm_dec hc
  obtain rfl : k0 = 1 := hk0
  simp only [pm_step, pm_pp] at hs
  split at hs
  · split at hs
    · rename_i hcat
      cases hs
      intro p l e R s mid args below meth c H locs cells slots ls C1 C2 hE hm h1 h2 h3 h4 h5 h6 h7 h8 h9 h10 h11
      exact lv_pop (pm_E_x hE) hm.1 hd ((pm_v_cat (pm_E_F hE) _).trans hcat) (K p l e R s mid args below meth c H locs cells slots ls C1 C2 hE hm h1 h2 h3 h4 h5 h6 h7 h8 h9 h10 h11)
    · cases hs
  · cases hs

set_option maxRecDepth 4000 in
theorem ps_dup2 (G : pm_G) (X : (Nat → Int32) × Nat) : pm_Ok G X (.dup2) := by
  intro d m pc L S μ Q n pc' L' S' μ' hc hs K
  obtain ⟨k0, hd, hk0, rfl⟩ := pm_dec hc
  obtain rfl : k0 = 1 := hk0
  simp only [pm_step, pm_dp2] at hs
  split at hs
  · split at hs
    · rename_i hcat
      cases hs
      intro p l e R s mid args below meth c H locs cells slots ls C1 C2 hE hm h1 h2 h3 h4 h5 h6 h7 h8 h9 h10 h11
      exact lv_dup2_11 (pm_E_x hE) hm.1 hd ((pm_v_cat (pm_E_F hE) _).trans hcat.1) ((pm_v_cat (pm_E_F hE) _).trans hcat.2) (K p l e R s mid args below meth c H locs cells slots ls C1 C2 hE hm h1 h2 h3 h4 h5 h6 h7 h8 h9 h10 h11)
    · cases hs
  · cases hs

set_option maxRecDepth 4000 in
theorem ps_aload_n (G : pm_G) (X : (Nat → Int32) × Nat) (i : Fin 4) : pm_Ok G X (.aload_n i) := by
  intro d m pc L S μ Q n pc' L' S' μ' hc hs K
  obtain ⟨k0, hd, hk0, rfl⟩ := pm_dec hc
  obtain rfl : k0 = 1 := hk0
  simp only [pm_step, pm_ald] at hs
  split at hs
  · rename_i hi
    cases hs
    intro p l e R s mid args below meth c H locs cells slots ls C1 C2 hE hm h1 h2 h3 h4 h5 h6 h7 h8 h9 h10 h11
    exact lv_aload_n (pm_E_x hE) hm.1 hd rfl (pm_get h8 hi rfl) (K p l e R s mid args below meth c H locs cells slots ls C1 C2 hE hm h1 h2 h3 h4 h5 h6 h7 h8 h9 h10 h11)
  · rename_i hi
    cases hs
    intro p l e R s mid args below meth c H locs cells slots ls C1 C2 hE hm h1 h2 h3 h4 h5 h6 h7 h8 h9 h10 h11
    exact lv_aload_n (pm_E_x hE) hm.1 hd rfl (pm_get h8 hi rfl) (K p l e R s mid args below meth c H locs cells slots ls C1 C2 hE hm h1 h2 h3 h4 h5 h6 h7 h8 h9 h10 h11)
  · rename_i hi
    cases hs
    intro p l e R s mid args below meth c H locs cells slots ls C1 C2 hE hm h1 h2 h3 h4 h5 h6 h7 h8 h9 h10 h11
    exact by
      have hv := pm_get h8 hi rfl
      unfold pm_v at hv
      dsimp only at hv
      have K' := K p l e R s mid args below meth c H locs cells slots ls C1 C2 hE hm h1 h2 h3 h4 h5 h6 h7 h8 h9 h10 h11
      simp only [List.map_cons] at K'
      rw [show pm_v G (.retAddr (_ + 2)) = (if _ % 2 = 0 then .ref (pm_aK G (_ / 2)) else .ref (pm_aV G (_ / 2))) from rfl] at K'
      split at hv
      · rename_i hz
        rw [if_pos hz] at K'
        exact lv_aload_n (pm_E_x hE) hm.1 hd rfl hv (K')
      · rename_i hz
        rw [if_neg hz] at K'
        exact lv_aload_n (pm_E_x hE) hm.1 hd rfl hv (K')
  · cases hs

set_option maxRecDepth 4000 in
theorem ps_aload (G : pm_G) (X : (Nat → Int32) × Nat) (i : Nat) : pm_Ok G X (.aload i) := by
  intro d m pc L S μ Q n pc' L' S' μ' hc hs K
  obtain ⟨k0, hd, hk0, rfl⟩ := pm_dec hc
  obtain rfl : k0 = 2 := hk0
  simp only [pm_step, pm_ald] at hs
  split at hs
  · rename_i hi
    cases hs
    intro p l e R s mid args below meth c H locs cells slots ls C1 C2 hE hm h1 h2 h3 h4 h5 h6 h7 h8 h9 h10 h11
    exact lv_aload (pm_E_x hE) hm.1 hd (pm_get h8 hi rfl) (K p l e R s mid args below meth c H locs cells slots ls C1 C2 hE hm h1 h2 h3 h4 h5 h6 h7 h8 h9 h10 h11)
  · rename_i hi
    cases hs
    intro p l e R s mid args below meth c H locs cells slots ls C1 C2 hE hm h1 h2 h3 h4 h5 h6 h7 h8 h9 h10 h11
    exact lv_aload (pm_E_x hE) hm.1 hd (pm_get h8 hi rfl) (K p l e R s mid args below meth c H locs cells slots ls C1 C2 hE hm h1 h2 h3 h4 h5 h6 h7 h8 h9 h10 h11)
  · rename_i hi
    cases hs
    intro p l e R s mid args below meth c H locs cells slots ls C1 C2 hE hm h1 h2 h3 h4 h5 h6 h7 h8 h9 h10 h11
    exact by
      have hv := pm_get h8 hi rfl
      unfold pm_v at hv
      dsimp only at hv
      have K' := K p l e R s mid args below meth c H locs cells slots ls C1 C2 hE hm h1 h2 h3 h4 h5 h6 h7 h8 h9 h10 h11
      simp only [List.map_cons] at K'
      rw [show pm_v G (.retAddr (_ + 2)) = (if _ % 2 = 0 then .ref (pm_aK G (_ / 2)) else .ref (pm_aV G (_ / 2))) from rfl] at K'
      split at hv
      · rename_i hz
        rw [if_pos hz] at K'
        exact lv_aload (pm_E_x hE) hm.1 hd hv (K')
      · rename_i hz
        rw [if_neg hz] at K'
        exact lv_aload (pm_E_x hE) hm.1 hd hv (K')
  · cases hs

set_option maxRecDepth 4000 in
theorem ps_iload_n (G : pm_G) (X : (Nat → Int32) × Nat) (i : Fin 4) : pm_Ok G X (.iload_n i) := by
  intro d m pc L S μ Q n pc' L' S' μ' hc hs K
  obtain ⟨k0, hd, hk0, rfl⟩ := pm_dec hc
  obtain rfl : k0 = 1 := hk0
  simp only [pm_step, pm_ild] at hs
  split at hs
  · rename_i hi
    cases hs
    intro p l e R s mid args below meth c H locs cells slots ls C1 C2 hE hm h1 h2 h3 h4 h5 h6 h7 h8 h9 h10 h11
    exact lv_iload_n (pm_E_x hE) hm.1 hd rfl (pm_get h8 hi rfl) (K p l e R s mid args below meth c H locs cells slots ls C1 C2 hE hm h1 h2 h3 h4 h5 h6 h7 h8 h9 h10 h11)
  · cases hs

set_option maxRecDepth 4000 in
theorem ps_iload (G : pm_G) (X : (Nat → Int32) × Nat) (i : Nat) : pm_Ok G X (.iload i) := by
  intro d m pc L S μ Q n pc' L' S' μ' hc hs K
  obtain ⟨k0, hd, hk0, rfl⟩ := pm_dec hc
  obtain rfl : k0 = 2 := hk0
  simp only [pm_step, pm_ild] at hs
  split at hs
  · rename_i hi
    cases hs
    intro p l e R s mid args below meth c H locs cells slots ls C1 C2 hE hm h1 h2 h3 h4 h5 h6 h7 h8 h9 h10 h11
    exact lv_iload (pm_E_x hE) hm.1 hd (pm_get h8 hi rfl) (K p l e R s mid args below meth c H locs cells slots ls C1 C2 hE hm h1 h2 h3 h4 h5 h6 h7 h8 h9 h10 h11)
  · cases hs

set_option maxRecDepth 4000 in
theorem ps_lload_n (G : pm_G) (X : (Nat → Int32) × Nat) (i : Fin 4) : pm_Ok G X (.lload_n i) := by
  intro d m pc L S μ Q n pc' L' S' μ' hc hs K
  obtain ⟨k0, hd, hk0, rfl⟩ := pm_dec hc
  obtain rfl : k0 = 1 := hk0
  simp only [pm_step, pm_lld] at hs
  split at hs
  · rename_i hi
    cases hs
    intro p l e R s mid args below meth c H locs cells slots ls C1 C2 hE hm h1 h2 h3 h4 h5 h6 h7 h8 h9 h10 h11
    exact lv_lload_n (pm_E_x hE) hm.1 hd rfl (pm_get h8 hi rfl) (K p l e R s mid args below meth c H locs cells slots ls C1 C2 hE hm h1 h2 h3 h4 h5 h6 h7 h8 h9 h10 h11)
  · cases hs

set_option maxRecDepth 4000 in
theorem ps_lload (G : pm_G) (X : (Nat → Int32) × Nat) (i : Nat) : pm_Ok G X (.lload i) := by
  intro d m pc L S μ Q n pc' L' S' μ' hc hs K
  obtain ⟨k0, hd, hk0, rfl⟩ := pm_dec hc
  obtain rfl : k0 = 2 := hk0
  simp only [pm_step, pm_lld] at hs
  split at hs
  · rename_i hi
    cases hs
    intro p l e R s mid args below meth c H locs cells slots ls C1 C2 hE hm h1 h2 h3 h4 h5 h6 h7 h8 h9 h10 h11
    exact lv_lload (pm_E_x hE) hm.1 hd (pm_get h8 hi rfl) (K p l e R s mid args below meth c H locs cells slots ls C1 C2 hE hm h1 h2 h3 h4 h5 h6 h7 h8 h9 h10 h11)
  · cases hs

set_option maxRecDepth 4000 in
theorem ps_istore_n (G : pm_G) (X : (Nat → Int32) × Nat) (i : Fin 4) : pm_Ok G X (.istore_n i) := by
  intro d m pc L S μ Q n pc' L' S' μ' hc hs K
  obtain ⟨k0, hd, hk0, rfl⟩ := pm_dec hc
  obtain rfl : k0 = 1 := hk0
  simp only [pm_step, pm_ist] at hs
  split at hs
  · rename_i x r
    split at hs
    · rename_i hi
      cases hs
      intro p l e R s mid args below meth c H locs cells slots ls C1 C2 hE hm h1 h2 h3 h4 h5 h6 h7 h8 h9 h10 h11
      refine lv_istore_n (lv := pm_lv G 0 L) (pm_E_x hE) hm.1 hd rfl h8 (by rw [← h7]; exact hi) rfl fun ls' hl => ?_
      have hl' := pm_sto1 (i := i) (v := .int x) (pm_E_F hE) rfl hl hi
      exact K p l e R s mid args below meth c H locs cells slots ls' C1 C2 hE hm h1 h2 h3 h4 h5 h6 (by rw [pm_st_len]; exact h7) hl' h9 h10 h11
    · cases hs
  · cases hs

set_option maxRecDepth 4000 in
theorem ps_istore (G : pm_G) (X : (Nat → Int32) × Nat) (i : Nat) : pm_Ok G X (.istore i) := by
  intro d m pc L S μ Q n pc' L' S' μ' hc hs K
  obtain ⟨k0, hd, hk0, rfl⟩ := pm_dec hc
  obtain rfl : k0 = 2 := hk0
  simp only [pm_step, pm_ist] at hs
  split at hs
  · rename_i x r
    split at hs
    · rename_i hi
      cases hs
      intro p l e R s mid args below meth c H locs cells slots ls C1 C2 hE hm h1 h2 h3 h4 h5 h6 h7 h8 h9 h10 h11
      refine lv_istore (lv := pm_lv G 0 L) (pm_E_x hE) hm.1 hd h8 (by rw [← h7]; exact hi) rfl fun ls' hl => ?_
      have hl' := pm_sto1 (i := i) (v := .int x) (pm_E_F hE) rfl hl hi
      exact K p l e R s mid args below meth c H locs cells slots ls' C1 C2 hE hm h1 h2 h3 h4 h5 h6 (by rw [pm_st_len]; exact h7) hl' h9 h10 h11
    · cases hs
  · cases hs

set_option maxRecDepth 4000 in
theorem ps_astore_n (G : pm_G) (X : (Nat → Int32) × Nat) (i : Fin 4) : pm_Ok G X (.astore_n i) := by
  intro d m pc L S μ Q n pc' L' S' μ' hc hs K
  obtain ⟨k0, hd, hk0, rfl⟩ := pm_dec hc
  obtain rfl : k0 = 1 := hk0
  simp only [pm_step, pm_ast] at hs
  split at hs
  · rename_i x r
    split at hs
    · rename_i hi
      cases hs
      intro p l e R s mid args below meth c H locs cells slots ls C1 C2 hE hm h1 h2 h3 h4 h5 h6 h7 h8 h9 h10 h11
      refine lv_astore_n (lv := pm_lv G 0 L) (pm_E_x hE) hm.1 hd rfl h8 (by rw [← h7]; exact hi) rfl fun ls' hl => ?_
      have hl' := pm_sto1 (i := i) (v := .ref x) (pm_E_F hE) rfl hl hi
      exact K p l e R s mid args below meth c H locs cells slots ls' C1 C2 hE hm h1 h2 h3 h4 h5 h6 (by rw [pm_st_len]; exact h7) hl' h9 h10 h11
    · cases hs
  · cases hs

set_option maxRecDepth 4000 in
theorem ps_astore (G : pm_G) (X : (Nat → Int32) × Nat) (i : Nat) : pm_Ok G X (.astore i) := by
  intro d m pc L S μ Q n pc' L' S' μ' hc hs K
  obtain ⟨k0, hd, hk0, rfl⟩ := pm_dec hc
  obtain rfl : k0 = 2 := hk0
  simp only [pm_step, pm_ast] at hs
  split at hs
  · rename_i x r
    split at hs
    · rename_i hi
      cases hs
      intro p l e R s mid args below meth c H locs cells slots ls C1 C2 hE hm h1 h2 h3 h4 h5 h6 h7 h8 h9 h10 h11
      refine lv_astore (lv := pm_lv G 0 L) (pm_E_x hE) hm.1 hd h8 (by rw [← h7]; exact hi) rfl fun ls' hl => ?_
      have hl' := pm_sto1 (i := i) (v := .ref x) (pm_E_F hE) rfl hl hi
      exact K p l e R s mid args below meth c H locs cells slots ls' C1 C2 hE hm h1 h2 h3 h4 h5 h6 (by rw [pm_st_len]; exact h7) hl' h9 h10 h11
    · cases hs
  · cases hs

set_option maxRecDepth 4000 in
theorem ps_lstore_n (G : pm_G) (X : (Nat → Int32) × Nat) (i : Fin 4) : pm_Ok G X (.lstore_n i) := by
  intro d m pc L S μ Q n pc' L' S' μ' hc hs K
  obtain ⟨k0, hd, hk0, rfl⟩ := pm_dec hc
  obtain rfl : k0 = 1 := hk0
  simp only [pm_step, pm_lst] at hs
  split at hs
  · rename_i x r
    split at hs
    · rename_i hi
      cases hs
      intro p l e R s mid args below meth c H locs cells slots ls C1 C2 hE hm h1 h2 h3 h4 h5 h6 h7 h8 h9 h10 h11
      refine lv_lstore_n (lv := pm_lv G 0 L) (pm_E_x hE) hm.1 hd rfl h8 (by rw [← h7]; exact hi) rfl fun ls' hl => ?_
      have hl' := pm_sto2 (i := i) (v := .long x) (pm_E_F hE) rfl hl (by omega)
      exact K p l e R s mid args below meth c H locs cells slots ls' C1 C2 hE hm h1 h2 h3 h4 h5 h6 (by rw [pm_st2_len]; exact h7) hl' h9 h10 h11
    · cases hs
  · cases hs

set_option maxRecDepth 4000 in
theorem ps_lstore (G : pm_G) (X : (Nat → Int32) × Nat) (i : Nat) : pm_Ok G X (.lstore i) := by
  intro d m pc L S μ Q n pc' L' S' μ' hc hs K
  obtain ⟨k0, hd, hk0, rfl⟩ := pm_dec hc
  obtain rfl : k0 = 2 := hk0
  simp only [pm_step, pm_lst] at hs
  split at hs
  · rename_i x r
    split at hs
    · rename_i hi
      cases hs
      intro p l e R s mid args below meth c H locs cells slots ls C1 C2 hE hm h1 h2 h3 h4 h5 h6 h7 h8 h9 h10 h11
      refine lv_lstore (lv := pm_lv G 0 L) (pm_E_x hE) hm.1 hd h8 (by rw [← h7]; exact hi) rfl fun ls' hl => ?_
      have hl' := pm_sto2 (i := i) (v := .long x) (pm_E_F hE) rfl hl (by omega)
      exact K p l e R s mid args below meth c H locs cells slots ls' C1 C2 hE hm h1 h2 h3 h4 h5 h6 (by rw [pm_st2_len]; exact h7) hl' h9 h10 h11
    · cases hs
  · cases hs

set_option maxRecDepth 4000 in
theorem ps_iinc (G : pm_G) (X : (Nat → Int32) × Nat) (i : Nat) (cst : Int) : pm_Ok G X (.iinc i cst) := by
  intro d m pc L S μ Q n pc' L' S' μ' hc hs K
  obtain ⟨k0, hd, hk0, rfl⟩ := pm_dec hc
  obtain rfl : k0 = 3 := hk0
  simp only [pm_step, pm_inc] at hs
  split at hs
  · rename_i x hi
    cases hs
    intro p l e R s mid args below meth c H locs cells slots ls C1 C2 hE hm h1 h2 h3 h4 h5 h6 h7 h8 h9 h10 h11
    have hlt : i < L.length := (List.getElem?_eq_some_iff.mp hi).1
    obtain ⟨k9, hk9⟩ := List.getElem?_of_mem (pm_lv_in (G := G) (k := 0) hi rfl)
    refine lv_iinc (lv := pm_lv G 0 L) (x := x) (pm_E_x hE) hm.1 hd h8 (k := k9) (by rw [hk9, Nat.zero_add]; rfl) rfl (by rw [← h7]; exact hlt) rfl fun ls' hl => ?_
    have hl' := pm_sto1 (v := .int (x + Int32.ofInt cst)) (pm_E_F hE) rfl hl hlt
    exact K p l e R s mid args below meth c H locs cells slots ls' C1 C2 hE hm h1 h2 h3 h4 h5 h6 (by rw [pm_st_len]; exact h7) hl' h9 h10 h11
  · cases hs

set_option maxRecDepth 4000 in
theorem ps_ifCond_eq (G : pm_G) (X : (Nat → Int32) × Nat) (off : Int) : pm_Ok G X (.ifCond .eq off) := by
  intro d m pc L S μ Q n pc' L' S' μ' hc hs K
  obtain ⟨k0, hd, hk0, rfl⟩ := pm_dec hc
  obtain rfl : k0 = 3 := hk0
  simp only [pm_step, pm_b1] at hs
  split at hs
  · split at hs
    · rename_i hpos
      cases hs
      intro p l e R s mid args below meth c H locs cells slots ls C1 C2 hE hm h1 h2 h3 h4 h5 h6 h7 h8 h9 h10 h11
      refine lv_if_eq (tgt := pm_to pc off) (pm_E_x hE) hm.1 hd (by unfold pm_to; omega) (fun hb => ?_) (fun hb => ?_)
      · have K' := K p l e R s mid args below meth c H locs cells slots ls C1 C2 hE hm h1 h2 h3 h4 h5 h6 h7 h8 h9 h10 h11
        rw [show pm_cd .eq _ _ = true from decide_eq_true hb, cond_true] at K'
        exact K'
      · have K' := K p l e R s mid args below meth c H locs cells slots ls C1 C2 hE hm h1 h2 h3 h4 h5 h6 h7 h8 h9 h10 h11
        rw [show pm_cd .eq _ _ = false from decide_eq_false hb, cond_false] at K'
        exact K'
    · cases hs
  · cases hs

set_option maxRecDepth 4000 in
theorem ps_ifCond_ne (G : pm_G) (X : (Nat → Int32) × Nat) (off : Int) : pm_Ok G X (.ifCond .ne off) := by
  intro d m pc L S μ Q n pc' L' S' μ' hc hs K
  obtain ⟨k0, hd, hk0, rfl⟩ := pm_dec hc
  obtain rfl : k0 = 3 := hk0
  simp only [pm_step, pm_b1] at hs
  split at hs
  · split at hs
    · rename_i hpos
      cases hs
      intro p l e R s mid args below meth c H locs cells slots ls C1 C2 hE hm h1 h2 h3 h4 h5 h6 h7 h8 h9 h10 h11
      refine lv_if_ne (tgt := pm_to pc off) (pm_E_x hE) hm.1 hd (by unfold pm_to; omega) (fun hb => ?_) (fun hb => ?_)
      · have K' := K p l e R s mid args below meth c H locs cells slots ls C1 C2 hE hm h1 h2 h3 h4 h5 h6 h7 h8 h9 h10 h11
        rw [show pm_cd .ne _ _ = true from decide_eq_true hb, cond_true] at K'
        exact K'
      · have K' := K p l e R s mid args below meth c H locs cells slots ls C1 C2 hE hm h1 h2 h3 h4 h5 h6 h7 h8 h9 h10 h11
        rw [show pm_cd .ne _ _ = false from decide_eq_false (fun z => z hb), cond_false] at K'
        exact K'
    · cases hs
  · cases hs

set_option maxRecDepth 4000 in
theorem ps_ifCond_lt (G : pm_G) (X : (Nat → Int32) × Nat) (off : Int) : pm_Ok G X (.ifCond .lt off) := by
  intro d m pc L S μ Q n pc' L' S' μ' hc hs K
  obtain ⟨k0, hd, hk0, rfl⟩ := pm_dec hc
  obtain rfl : k0 = 3 := hk0
  simp only [pm_step, pm_b1] at hs
  split at hs
  · split at hs
    · rename_i hpos
      cases hs
      intro p l e R s mid args below meth c H locs cells slots ls C1 C2 hE hm h1 h2 h3 h4 h5 h6 h7 h8 h9 h10 h11
      refine lv_if_lt (tgt := pm_to pc off) (pm_E_x hE) hm.1 hd (by unfold pm_to; omega) (fun hb => ?_) (fun hb => ?_)
      · have K' := K p l e R s mid args below meth c H locs cells slots ls C1 C2 hE hm h1 h2 h3 h4 h5 h6 h7 h8 h9 h10 h11
        rw [show pm_cd .lt _ _ = true from decide_eq_true hb, cond_true] at K'
        exact K'
      · have K' := K p l e R s mid args below meth c H locs cells slots ls C1 C2 hE hm h1 h2 h3 h4 h5 h6 h7 h8 h9 h10 h11
        rw [show pm_cd .lt _ _ = false from decide_eq_false hb, cond_false] at K'
        exact K'
    · cases hs
  · cases hs

set_option maxRecDepth 4000 in
theorem ps_ifCond_ge (G : pm_G) (X : (Nat → Int32) × Nat) (off : Int) : pm_Ok G X (.ifCond .ge off) := by
  intro d m pc L S μ Q n pc' L' S' μ' hc hs K
  obtain ⟨k0, hd, hk0, rfl⟩ := pm_dec hc
  obtain rfl : k0 = 3 := hk0
  simp only [pm_step, pm_b1] at hs
  split at hs
  · split at hs
    · rename_i hpos
      cases hs
      intro p l e R s mid args below meth c H locs cells slots ls C1 C2 hE hm h1 h2 h3 h4 h5 h6 h7 h8 h9 h10 h11
      refine lv_if_ge (tgt := pm_to pc off) (pm_E_x hE) hm.1 hd (by unfold pm_to; omega) (fun hb => ?_) (fun hb => ?_)
      · have K' := K p l e R s mid args below meth c H locs cells slots ls C1 C2 hE hm h1 h2 h3 h4 h5 h6 h7 h8 h9 h10 h11
        rw [show pm_cd .ge _ _ = true from decide_eq_true hb, cond_true] at K'
        exact K'
      · have K' := K p l e R s mid args below meth c H locs cells slots ls C1 C2 hE hm h1 h2 h3 h4 h5 h6 h7 h8 h9 h10 h11
        rw [show pm_cd .ge _ _ = false from decide_eq_false hb, cond_false] at K'
        exact K'
    · cases hs
  · cases hs

set_option maxRecDepth 4000 in
theorem ps_ifCond_gt (G : pm_G) (X : (Nat → Int32) × Nat) (off : Int) : pm_Ok G X (.ifCond .gt off) := by
  intro d m pc L S μ Q n pc' L' S' μ' hc hs K
  obtain ⟨k0, hd, hk0, rfl⟩ := pm_dec hc
  obtain rfl : k0 = 3 := hk0
  simp only [pm_step, pm_b1] at hs
  split at hs
  · split at hs
    · rename_i hpos
      cases hs
      intro p l e R s mid args below meth c H locs cells slots ls C1 C2 hE hm h1 h2 h3 h4 h5 h6 h7 h8 h9 h10 h11
      refine lv_if_gt (tgt := pm_to pc off) (pm_E_x hE) hm.1 hd (by unfold pm_to; omega) (fun hb => ?_) (fun hb => ?_)
      · have K' := K p l e R s mid args below meth c H locs cells slots ls C1 C2 hE hm h1 h2 h3 h4 h5 h6 h7 h8 h9 h10 h11
        rw [show pm_cd .gt _ _ = true from decide_eq_true hb, cond_true] at K'
        exact K'
      · have K' := K p l e R s mid args below meth c H locs cells slots ls C1 C2 hE hm h1 h2 h3 h4 h5 h6 h7 h8 h9 h10 h11
        rw [show pm_cd .gt _ _ = false from decide_eq_false hb, cond_false] at K'
        exact K'
    · cases hs
  · cases hs

set_option maxRecDepth 4000 in
theorem ps_ifCond_le (G : pm_G) (X : (Nat → Int32) × Nat) (off : Int) : pm_Ok G X (.ifCond .le off) := by
  intro d m pc L S μ Q n pc' L' S' μ' hc hs K
  obtain ⟨k0, hd, hk0, rfl⟩ := pm_dec hc
  obtain rfl : k0 = 3 := hk0
  simp only [pm_step, pm_b1] at hs
  split at hs
  · split at hs
    · rename_i hpos
      cases hs
      intro p l e R s mid args below meth c H locs cells slots ls C1 C2 hE hm h1 h2 h3 h4 h5 h6 h7 h8 h9 h10 h11
      refine lv_if_le (tgt := pm_to pc off) (pm_E_x hE) hm.1 hd (by unfold pm_to; omega) (fun hb => ?_) (fun hb => ?_)
      · have K' := K p l e R s mid args below meth c H locs cells slots ls C1 C2 hE hm h1 h2 h3 h4 h5 h6 h7 h8 h9 h10 h11
        rw [show pm_cd .le _ _ = true from decide_eq_true hb, cond_true] at K'
        exact K'
      · have K' := K p l e R s mid args below meth c H locs cells slots ls C1 C2 hE hm h1 h2 h3 h4 h5 h6 h7 h8 h9 h10 h11
        rw [show pm_cd .le _ _ = false from decide_eq_false hb, cond_false] at K'
        exact K'
    · cases hs
  · cases hs

set_option maxRecDepth 4000 in
theorem ps_if_icmp_eq (G : pm_G) (X : (Nat → Int32) × Nat) (off : Int) : pm_Ok G X (.if_icmp .eq off) := by
  intro d m pc L S μ Q n pc' L' S' μ' hc hs K
  obtain ⟨k0, hd, hk0, rfl⟩ := pm_dec hc
  obtain rfl : k0 = 3 := hk0
  simp only [pm_step, pm_b2] at hs
  split at hs
  · split at hs
    · rename_i hpos
      cases hs
      intro p l e R s mid args below meth c H locs cells slots ls C1 C2 hE hm h1 h2 h3 h4 h5 h6 h7 h8 h9 h10 h11
      refine lv_icmp_eq (tgt := pm_to pc off) (pm_E_x hE) hm.1 hd (by unfold pm_to; omega) (fun hb => ?_) (fun hb => ?_)
      · have K' := K p l e R s mid args below meth c H locs cells slots ls C1 C2 hE hm h1 h2 h3 h4 h5 h6 h7 h8 h9 h10 h11
        rw [show pm_cd .eq _ _ = true from decide_eq_true hb, cond_true] at K'
        exact K'
      · have K' := K p l e R s mid args below meth c H locs cells slots ls C1 C2 hE hm h1 h2 h3 h4 h5 h6 h7 h8 h9 h10 h11
        rw [show pm_cd .eq _ _ = false from decide_eq_false hb, cond_false] at K'
        exact K'
    · cases hs
  · cases hs

set_option maxRecDepth 4000 in
theorem ps_if_icmp_ne (G : pm_G) (X : (Nat → Int32) × Nat) (off : Int) : pm_Ok G X (.if_icmp .ne off) := by
  intro d m pc L S μ Q n pc' L' S' μ' hc hs K
  obtain ⟨k0, hd, hk0, rfl⟩ := pm_dec hc
  obtain rfl : k0 = 3 := hk0
  simp only [pm_step, pm_b2] at hs
  split at hs
  · split at hs
    · rename_i hpos
      cases hs
      intro p l e R s mid args below meth c H locs cells slots ls C1 C2 hE hm h1 h2 h3 h4 h5 h6 h7 h8 h9 h10 h11
      refine lv_icmp_ne (tgt := pm_to pc off) (pm_E_x hE) hm.1 hd (by unfold pm_to; omega) (fun hb => ?_) (fun hb => ?_)
      · have K' := K p l e R s mid args below meth c H locs cells slots ls C1 C2 hE hm h1 h2 h3 h4 h5 h6 h7 h8 h9 h10 h11
        rw [show pm_cd .ne _ _ = true from decide_eq_true hb, cond_true] at K'
        exact K'
      · have K' := K p l e R s mid args below meth c H locs cells slots ls C1 C2 hE hm h1 h2 h3 h4 h5 h6 h7 h8 h9 h10 h11
        rw [show pm_cd .ne _ _ = false from decide_eq_false (fun z => z hb), cond_false] at K'
        exact K'
    · cases hs
  · cases hs

set_option maxRecDepth 4000 in
theorem ps_if_icmp_lt (G : pm_G) (X : (Nat → Int32) × Nat) (off : Int) : pm_Ok G X (.if_icmp .lt off) := by
  intro d m pc L S μ Q n pc' L' S' μ' hc hs K
  obtain ⟨k0, hd, hk0, rfl⟩ := pm_dec hc
  obtain rfl : k0 = 3 := hk0
  simp only [pm_step, pm_b2] at hs
  split at hs
  · split at hs
    · rename_i hpos
      cases hs
      intro p l e R s mid args below meth c H locs cells slots ls C1 C2 hE hm h1 h2 h3 h4 h5 h6 h7 h8 h9 h10 h11
      refine lv_icmp_lt (tgt := pm_to pc off) (pm_E_x hE) hm.1 hd (by unfold pm_to; omega) (fun hb => ?_) (fun hb => ?_)
      · have K' := K p l e R s mid args below meth c H locs cells slots ls C1 C2 hE hm h1 h2 h3 h4 h5 h6 h7 h8 h9 h10 h11
        rw [show pm_cd .lt _ _ = true from decide_eq_true hb, cond_true] at K'
        exact K'
      · have K' := K p l e R s mid args below meth c H locs cells slots ls C1 C2 hE hm h1 h2 h3 h4 h5 h6 h7 h8 h9 h10 h11
        rw [show pm_cd .lt _ _ = false from decide_eq_false hb, cond_false] at K'
        exact K'
    · cases hs
  · cases hs

set_option maxRecDepth 4000 in
theorem ps_if_icmp_ge (G : pm_G) (X : (Nat → Int32) × Nat) (off : Int) : pm_Ok G X (.if_icmp .ge off) := by
  intro d m pc L S μ Q n pc' L' S' μ' hc hs K
  obtain ⟨k0, hd, hk0, rfl⟩ := pm_dec hc
  obtain rfl : k0 = 3 := hk0
  simp only [pm_step, pm_b2] at hs
  split at hs
  · split at hs
    · rename_i hpos
      cases hs
      intro p l e R s mid args below meth c H locs cells slots ls C1 C2 hE hm h1 h2 h3 h4 h5 h6 h7 h8 h9 h10 h11
      refine lv_icmp_ge (tgt := pm_to pc off) (pm_E_x hE) hm.1 hd (by unfold pm_to; omega) (fun hb => ?_) (fun hb => ?_)
      · have K' := K p l e R s mid args below meth c H locs cells slots ls C1 C2 hE hm h1 h2 h3 h4 h5 h6 h7 h8 h9 h10 h11
        rw [show pm_cd .ge _ _ = true from decide_eq_true hb, cond_true] at K'
        exact K'
      · have K' := K p l e R s mid args below meth c H locs cells slots ls C1 C2 hE hm h1 h2 h3 h4 h5 h6 h7 h8 h9 h10 h11
        rw [show pm_cd .ge _ _ = false from decide_eq_false hb, cond_false] at K'
        exact K'
    · cases hs
  · cases hs

set_option maxRecDepth 4000 in
theorem ps_if_icmp_gt (G : pm_G) (X : (Nat → Int32) × Nat) (off : Int) : pm_Ok G X (.if_icmp .gt off) := by
  intro d m pc L S μ Q n pc' L' S' μ' hc hs K
  obtain ⟨k0, hd, hk0, rfl⟩ := pm_dec hc
  obtain rfl : k0 = 3 := hk0
  simp only [pm_step, pm_b2] at hs
  split at hs
  · split at hs
    · rename_i hpos
      cases hs
      intro p l e R s mid args below meth c H locs cells slots ls C1 C2 hE hm h1 h2 h3 h4 h5 h6 h7 h8 h9 h10 h11
      refine lv_icmp_gt (tgt := pm_to pc off) (pm_E_x hE) hm.1 hd (by unfold pm_to; omega) (fun hb => ?_) (fun hb => ?_)
      · have K' := K p l e R s mid args below meth c H locs cells slots ls C1 C2 hE hm h1 h2 h3 h4 h5 h6 h7 h8 h9 h10 h11
        rw [show pm_cd .gt _ _ = true from decide_eq_true hb, cond_true] at K'
        exact K'
      · have K' := K p l e R s mid args below meth c H locs cells slots ls C1 C2 hE hm h1 h2 h3 h4 h5 h6 h7 h8 h9 h10 h11
        rw [show pm_cd .gt _ _ = false from decide_eq_false hb, cond_false] at K'
        exact K'
    · cases hs
  · cases hs

set_option maxRecDepth 4000 in
theorem ps_if_icmp_le (G : pm_G) (X : (Nat → Int32) × Nat) (off : Int) : pm_Ok G X (.if_icmp .le off) := by
  intro d m pc L S μ Q n pc' L' S' μ' hc hs K
  obtain ⟨k0, hd, hk0, rfl⟩ := pm_dec hc
  obtain rfl : k0 = 3 := hk0
  simp only [pm_step, pm_b2] at hs
  split at hs
  · split at hs
    · rename_i hpos
      cases hs
      intro p l e R s mid args below meth c H locs cells slots ls C1 C2 hE hm h1 h2 h3 h4 h5 h6 h7 h8 h9 h10 h11
      refine lv_icmp_le (tgt := pm_to pc off) (pm_E_x hE) hm.1 hd (by unfold pm_to; omega) (fun hb => ?_) (fun hb => ?_)
      · have K' := K p l e R s mid args below meth c H locs cells slots ls C1 C2 hE hm h1 h2 h3 h4 h5 h6 h7 h8 h9 h10 h11
        rw [show pm_cd .le _ _ = true from decide_eq_true hb, cond_true] at K'
        exact K'
      · have K' := K p l e R s mid args below meth c H locs cells slots ls C1 C2 hE hm h1 h2 h3 h4 h5 h6 h7 h8 h9 h10 h11
        rw [show pm_cd .le _ _ = false from decide_eq_false hb, cond_false] at K'
        exact K'
    · cases hs
  · cases hs

set_option maxRecDepth 4000 in
theorem ps_goto (G : pm_G) (X : (Nat → Int32) × Nat) (off : Int) : pm_Ok G X (.goto off) := by
  intro d m pc L S μ Q n pc' L' S' μ' hc hs K
  obtain ⟨k0, hd, hk0, rfl⟩ := pm_dec hc
  obtain rfl : k0 = 3 := hk0
  simp only [pm_step] at hs
  split at hs
  · rename_i hpos
    cases hs
    intro p l e R s mid args below meth c H locs cells slots ls C1 C2 hE hm h1 h2 h3 h4 h5 h6 h7 h8 h9 h10 h11
    exact lv_goto (tgt := pm_to pc off) (pm_E_x hE) hm.1 hd (by unfold pm_to; omega) (K p l e R s mid args below meth c H locs cells slots ls C1 C2 hE hm h1 h2 h3 h4 h5 h6 h7 h8 h9 h10 h11)
  · cases hs

theorem ps_tableswitch (G : pm_G) (X : (Nat → Int32) × Nat) (df lo hi : Int) (offs : Array Int) : pm_Ok G X (.tableswitch df lo hi offs) := by
  intro d m pc L S μ Q n pc' L' S' μ' hc hs K
  obtain ⟨k0, hd, hk0, rfl⟩ := pm_dec hc
  simp only [pm_step, pm_sw] at hs
  split at hs
  · rename_i x r
    split at hs
    · rename_i of hof
      split at hs
      · rename_i hpos
        cases hs
        intro p l e R s mid args below meth c H locs cells slots ls C1 C2 hE hm h1 h2 h3 h4 h5 h6 h7 h8 h9 h10 h11
        by_cases hb : x.toInt < lo ∨ hi < x.toInt
        · have he : pm_tsw df lo hi offs x = some df := if_pos hb
          rw [he] at hof
          cases hof
          exact lv_tableOut (tgt := pm_to pc df) (pm_E_x hE) hm.1 hd hb (by unfold pm_to; omega) (K p l e R s mid args below meth c H locs cells slots ls C1 C2 hE hm h1 h2 h3 h4 h5 h6 h7 h8 h9 h10 h11)
        · have he : pm_tsw df lo hi offs x = offs[(x.toInt - lo).toNat]? := if_neg hb
          rw [he] at hof
          exact lv_tableIn (tgt := pm_to pc of) (pm_E_x hE) hm.1 hd (fun z => hb (Or.inl z)) (fun z => hb (Or.inr z)) hof (by unfold pm_to; omega) (K p l e R s mid args below meth c H locs cells slots ls C1 C2 hE hm h1 h2 h3 h4 h5 h6 h7 h8 h9 h10 h11)
      · cases hs
    · cases hs
  · cases hs
theorem ps_lookupswitch (G : pm_G) (X : (Nat → Int32) × Nat) (df : Int) (prs : Array (Int × Int)) : pm_Ok G X (.lookupswitch df prs) := by
  intro d m pc L S μ Q n pc' L' S' μ' hc hs K
  obtain ⟨k0, hd, hk0, rfl⟩ := pm_dec hc
  simp only [pm_step] at hs
  split at hs
  · rename_i hsrt
    simp only [pm_sw] at hs
    split at hs
    · rename_i x r
      split at hs
      · rename_i hpos
        cases hs
        intro p l e R s mid args below meth c H locs cells slots ls C1 C2 hE hm h1 h2 h3 h4 h5 h6 h7 h8 h9 h10 h11
        exact lv_lookup (tgt := pm_to pc (Op.lookupswitch.offset prs.toList df x.toInt)) (pm_E_x hE) hm.1 hd hsrt rfl (by unfold pm_to; omega) (K p l e R s mid args below meth c H locs cells slots ls C1 C2 hE hm h1 h2 h3 h4 h5 h6 h7 h8 h9 h10 h11)
      · cases hs
    · cases hs
  · cases hs
