/-! LOCALS, AND THE CELLS THAT STAND FOR THE MEMORY -/
theorem pm_lv_mem {G : pm_G} : ∀ {L : List Value} {k i : Nat} {w : Value}, (i, w) ∈ pm_lv G k L → ∃ (j : Nat) (v : Value), L[j]? = some v ∧ i = k + j ∧ w = pm_v G v
  | [], _, _, _, h => by simp [pm_lv] at h
  | v :: t, k, i, w, h => by
    have key : (i, w) ∈ pm_lv G (k + 1) t → ∃ (j : Nat) (v' : Value), (v :: t)[j]? = some v' ∧ i = k + j ∧ w = pm_v G v' := fun h' => by
      obtain ⟨j, v', h1, h2, h3⟩ := pm_lv_mem h'
      exact ⟨j + 1, v', by simpa using h1, by omega, h3⟩
    unfold pm_lv at h
    split at h
    · exact key h
    · rcases List.mem_cons.mp h with h | h
      · cases h
        exact ⟨0, v, rfl, rfl, rfl⟩
      · exact key h
theorem pm_lv_in {G : pm_G} : ∀ {L : List Value} {k j : Nat} {v : Value}, L[j]? = some v → pm_dbl v = false → (k + j, pm_v G v) ∈ pm_lv G k L
  | [], _, _, _, h, _ => by simp at h
  | u :: t, k, 0, v, h, hv => by
    simp at h
    subst h
    unfold pm_lv
    split
    · simp [pm_dbl] at hv
    · exact List.mem_cons_self
  | u :: t, k, j + 1, v, h, hv => by
    have h1 : (k + 1 + j, pm_v G v) ∈ pm_lv G (k + 1) t := pm_lv_in (by simpa using h) hv
    have h2 : (k + (j + 1), pm_v G v) ∈ pm_lv G (k + 1) t := by rw [show k + (j + 1) = k + 1 + j by omega]; exact h1
    unfold pm_lv
    split
    · exact h2
    · exact List.mem_cons_of_mem _ h2
theorem pm_get {G : pm_G} {ls : Array Slot} {n : Nat} {L : List Value} (h : lv_has ls n (pm_lv G 0 L)) {i : Nat} {v : Value} (hi : L[i]? = some v) (hv : pm_dbl v = false) : ls[i]? = some (.val (pm_v G v)) := by
  have := h.2.2 _ (pm_lv_in (G := G) (k := 0) hi hv)
  simpa using this
theorem pm_lv_dbl {G : pm_G} : ∀ {L : List Value} {k i : Nat} {w : Value}, (i, w) ∈ pm_lv G k L → ∃ (j : Nat) (v : Value), L[j]? = some v ∧ i = k + j ∧ w = pm_v G v ∧ pm_dbl v = false
  | [], _, _, _, h => by simp [pm_lv] at h
  | v :: t, k, i, w, h => by
    have key : (i, w) ∈ pm_lv G (k + 1) t → ∃ (j : Nat) (v' : Value), (v :: t)[j]? = some v' ∧ i = k + j ∧ w = pm_v G v' ∧ pm_dbl v' = false := fun h' => by
      obtain ⟨j, v', h1, h2, h3⟩ := pm_lv_dbl h'
      exact ⟨j + 1, v', by simpa using h1, by omega, h3⟩
    unfold pm_lv at h
    split at h
    · exact key h
    · rename_i hnd
      rcases List.mem_cons.mp h with h | h
      · cases h
        refine ⟨0, v, rfl, rfl, rfl, ?_⟩
        unfold pm_dbl
        split
        · rename_i b
          exact absurd rfl (hnd b)
        · rfl
      · exact key h
theorem pm_clr_len (L : List Value) (i : Nat) : (pm_clr L i).length = L.length := by
  unfold pm_clr
  split
  · rfl
  · split <;> simp
theorem pm_st_len (L : List Value) (i : Nat) (v : Value) : (pm_st L i v).length = L.length := by simp [pm_st, pm_clr_len]
theorem pm_st2_len (L : List Value) (i : Nat) (v : Value) : (pm_st2 L i v).length = L.length := by simp [pm_st2, pm_clr_len]
theorem pm_vF_ref {v : Value} (h : v.isRef = true) : v.category = 1 := by cases v <;> simp [Value.isRef] at h <;> rfl
theorem pm_v_cat {G : pm_G} (hF : (pm_vF G).isRef = true) (v : Value) : (pm_v G v).category = v.category := by
  unfold pm_v
  split
  · rfl
  · rfl
  · rw [pm_vF_ref hF]; rfl
  · split <;> rfl
  · rfl
/-- a local other than the one stored, that is still there -/
theorem pm_clr_get {L : List Value} {i j : Nat} {v : Value} (h : (pm_clr L i)[j]? = some v) (hv : pm_dbl v = false) : L[j]? = some v ∧ ¬ (j + 1 = i ∧ v.category = 2) := by
  unfold pm_clr at h
  split at h
  · exact ⟨h, fun q => by omega⟩
  · rename_i a
    split at h
    · rename_i x hx
      by_cases e : a = j
      · subst e
        have hl := (List.getElem?_eq_some_iff.mp hx).1
        rw [List.getElem?_set_self hl] at h
        cases h
        simp [pm_dbl, pm_jk] at hv
      · rw [List.getElem?_set_ne e] at h
        exact ⟨h, fun q => e (by omega)⟩
    · rename_i hx
      refine ⟨h, fun q => ?_⟩
      have e : j = a := by omega
      subst e
      cases v with
      | long x => exact hx x h
      | double x => simp [pm_dbl] at hv
      | _ => simp [Value.category] at q
theorem pm_sto1 {G : pm_G} {ls' : Array Slot} {n i : Nat} {L : List Value} {v w : Value} (hF : (pm_vF G).isRef = true) (hw : w = pm_v G v) (h : lv_has ls' n ((i, w) :: (pm_lv G 0 L).filter (fun q => !(q.1 == i) && !(q.1 + 1 == i && q.2.category == 2)))) (hi : i < L.length) : lv_has ls' n (pm_lv G 0 (pm_st L i v)) := by
  refine ⟨h.1, h.2.1, fun q hq => ?_⟩
  obtain ⟨j, u, h1, h2, h3, h4⟩ := pm_lv_dbl hq
  obtain ⟨q1, q2⟩ := q
  simp only [Nat.zero_add] at h2
  subst h2
  subst h3
  unfold pm_st at h1
  by_cases e : i = q1
  · subst e
    rw [List.getElem?_set_self (by rw [pm_clr_len]; exact hi)] at h1
    cases h1
    rw [← hw]
    exact h.2.2 _ List.mem_cons_self
  · rw [List.getElem?_set_ne e] at h1
    obtain ⟨g1, g2⟩ := pm_clr_get h1 h4
    refine h.2.2 _ (List.mem_cons_of_mem _ (List.mem_filter.mpr ⟨by simpa using pm_lv_in (G := G) (k := 0) g1 h4, ?_⟩))
    have e' : ¬ q1 = i := fun z => e z.symm
    simp only [Bool.and_eq_true, Bool.not_eq_true', beq_eq_false_iff_ne, ne_eq, Bool.and_eq_false_iff, pm_v_cat hF]
    refine ⟨e', ?_⟩
    by_cases z : q1 + 1 = i
    · exact Or.inr (fun z2 => g2 ⟨z, z2⟩)
    · exact Or.inl z
theorem pm_sto2 {G : pm_G} {ls' : Array Slot} {n i : Nat} {L : List Value} {v w : Value} (hF : (pm_vF G).isRef = true) (hw : w = pm_v G v) (h : lv_has ls' n ((i, w) :: (pm_lv G 0 L).filter (fun q => !(q.1 == i) && (!(q.1 == i + 1) && !(q.1 + 1 == i && q.2.category == 2))))) (hi : i < L.length) : lv_has ls' n (pm_lv G 0 (pm_st2 L i v)) := by
  refine ⟨h.1, h.2.1, fun q hq => ?_⟩
  obtain ⟨j, u, h1, h2, h3, h4⟩ := pm_lv_dbl hq
  obtain ⟨q1, q2⟩ := q
  simp only [Nat.zero_add] at h2
  subst h2
  subst h3
  unfold pm_st2 at h1
  by_cases e2 : i + 1 = q1
  · subst e2
    by_cases hl : i + 1 < L.length
    · rw [List.getElem?_set_self (by simpa [pm_clr_len] using hl)] at h1
      cases h1
      simp [pm_dbl, pm_jk] at h4
    · exfalso
      have := (List.getElem?_eq_some_iff.mp h1).1
      simp [pm_clr_len] at this
      exact hl this
  · rw [List.getElem?_set_ne e2] at h1
    by_cases e : i = q1
    · subst e
      rw [List.getElem?_set_self (by rw [pm_clr_len]; exact hi)] at h1
      cases h1
      rw [← hw]
      exact h.2.2 _ List.mem_cons_self
    · rw [List.getElem?_set_ne e] at h1
      obtain ⟨g1, g2⟩ := pm_clr_get h1 h4
      refine h.2.2 _ (List.mem_cons_of_mem _ (List.mem_filter.mpr ⟨by simpa using pm_lv_in (G := G) (k := 0) g1 h4, ?_⟩))
      have e' : ¬ q1 = i := fun z => e z.symm
      have e2' : ¬ q1 = i + 1 := fun z => e2 z.symm
      simp only [Bool.and_eq_true, Bool.not_eq_true', beq_eq_false_iff_ne, ne_eq, Bool.and_eq_false_iff, pm_v_cat hF]
      refine ⟨e', e2', ?_⟩
      by_cases z : q1 + 1 = i
      · exact Or.inr (fun z2 => g2 ⟨z, z2⟩)
      · exact Or.inl z
theorem pm_ws_get (G : pm_G) (μ : pm_M) (a : Nat) : (pm_ws G μ)[a]? = (μ.2.2.2.1[a]?).map (fun q => (pm_base G + a, pm_e G μ a q)) := by
  unfold pm_ws
  rw [List.getElem?_mapIdx]
theorem pm_ws_at {G : pm_G} {μ : pm_M} {a : Nat} {q : Nat × Nat} (h : μ.2.2.2.1[a]? = some q) : (pm_ws G μ)[a]? = some (pm_base G + a, pm_e G μ a q) := by rw [pm_ws_get, h]; rfl
theorem pm_ws_len (G : pm_G) (μ : pm_M) : (pm_ws G μ).length = μ.2.2.2.1.length := by simp [pm_ws]
theorem pm_wsD (G : pm_G) (μ : pm_M) : va_D (pm_A G) (pm_ws G μ) := by
  refine ⟨fun i j p q hi hj he => ?_, fun k q hk => ?_⟩
  · rw [pm_ws_get] at hi hj
    cases h1 : μ.2.2.2.1[i]? with
    | none => rw [h1] at hi; cases hi
    | some x =>
      cases h2 : μ.2.2.2.1[j]? with
      | none => rw [h2] at hj; cases hj
      | some y =>
        rw [h1] at hi
        rw [h2] at hj
        cases hi
        cases hj
        have : pm_base G + i = pm_base G + j := he
        omega
  · rw [pm_ws_get] at hk
    cases h1 : μ.2.2.2.1[k]? with
    | none => rw [h1] at hk; cases hk
    | some x =>
      rw [h1] at hk
      cases hk
      exact Nat.le_add_right _ _
/-- one cell changes -/
theorem pm_ws_set {G : pm_G} {μ μ' : pm_M} {a : Nat} {q : Nat × Nat} (hT : μ'.2.2.2.1 = μ.2.2.2.1) (ha : μ.2.2.2.1[a]? = some q) (ho : ∀ (b : Nat) (r : Nat × Nat), b ≠ a → pm_e G μ' b r = pm_e G μ b r) : pm_ws G μ' = (pm_ws G μ).set a (pm_base G + a, pm_e G μ' a q) := by
  apply List.ext_getElem?
  intro j
  by_cases e : a = j
  · subst e
    have hl : a < (pm_ws G μ).length := by rw [pm_ws_len]; exact (List.getElem?_eq_some_iff.mp ha).1
    rw [List.getElem?_set_self hl, pm_ws_get, hT, ha]
    rfl
  · rw [List.getElem?_set_ne e, pm_ws_get, pm_ws_get, hT]
    cases h : μ.2.2.2.1[j]? with
    | none => rfl
    | some r =>
      show some (_, pm_e G μ' j r) = some (_, pm_e G μ j r)
      rw [ho j r (fun z => e z.symm)]
/-- the heap's size is known where nothing was thrown -/
theorem pm_size {p : Program} {l : Launch} {e : Env} {R : Room} {s : State} {m : MethodId} {args : Array Value} {below : List Frame} {meth : Method} {c : Code} {H : Heap} {locs : List Loc} {cells slots : Nat} {Q : State → Prop} {g : JFrame} {G : pm_G} {X : (Nat → Int32) × Nat} {μ : pm_M} (hE : pm_E G X p l s) (hH : pm_H G μ H locs) (h0 : s.heap.size + cells ≤ pm_base G + μ.2.2.2.1.length)
    (k : H.size = pm_base G + μ.2.2.2.1.length → W p l e R s m args below meth c H locs cells slots Q g) : W p l e R s m args below meth c H locs cells slots Q g := by
  intro T hT Y
  refine k ?_ T hT Y
  have h1 := Y.heapSize
  rw [hT] at h1
  have hb : (pm_h0 G).size = pm_base G := hE.2.2.2.2.2.2.2.2.2.2.2.2.2.2.2.2.2.2
  have h2 : pm_base G ≤ H.size := by rw [← hb]; exact hH.2.1
  have h3 : pm_base G + μ.2.2.2.1.length ≤ H.size := by
    cases hn : μ.2.2.2.1.length with
    | zero => simpa using h2
    | succ n =>
      have hl : n < μ.2.2.2.1.length := by omega
      obtain ⟨q, hq⟩ : ∃ q, μ.2.2.2.1[n]? = some q := ⟨_, List.getElem?_eq_getElem hl⟩
      have := (hH.1 n _ (pm_ws_at hq)).lt
      show pm_base G + (n + 1) ≤ H.size
      have h4 : pm_base G + n < H.size := this
      omega
  omega
