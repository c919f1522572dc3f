/-! AT THE LAW'S ENTRY: what the machine asks of the state is so -/
theorem pm_arrC {ty : FieldType} {args : Array Value} {s : State} (h : (Cond.arrayClass ty).before args s = true) : ∃ cA : ClassId, ArrOfT s cA ty ∧ s.vm.findClass ("[" ++ ty.toString) = some cA := by
  obtain ⟨c, k, comp, h1, h2, h3⟩ := Cond.arrayClass_spec h
  exact ⟨c, fun n z => ⟨fun k h => (by cases h), k, h2, comp, h3⟩, h1⟩
theorem pm_arrO {t : FieldType} {args : Array Value} {s : State} (h : (Cond.arrayOver (.array t)).before args s = true) : ∃ cA : ClassId, ArrOfT s cA (.array t) ∧ s.vm.findClass ("[" ++ (FieldType.array t).toString) = some cA := by
  obtain ⟨comp, c, k, -, -, h2, h3, h1⟩ := arrayOverA_spec h
  exact ⟨c, fun n z => ⟨fun k h => (by cases h), k, h2, comp, h3⟩, h1⟩
theorem pm_ins : ∀ q ∈ vwCl, Cond.instantiable q.1 q.2.2 ∈ lw_tbl := by decide +kernel
theorem pm_ovr : Cond.arrayOver (.array .int) ∈ lw_tbl := by decide +kernel
theorem pm_sw1 : Cond.laysStatic "java/lang/String" "COMPACT_STRINGS" "Z" ∈ lw_tbl ∧ Cond.initialized "java/lang/String" ∈ lw_tbl ∧ Cond.eq (.static "java/lang/String" "COMPACT_STRINGS" "Z") (.int 1) ∈ pm_nar := by decide +kernel
theorem pm_sw2 : Cond.laysStatic "jdk/internal/util/Preconditions" "SIOOBE_FORMATTER" "Ljava/util/function/BiFunction;" ∈ lw_tbl ∧ Cond.initialized "jdk/internal/util/Preconditions" ∈ lw_tbl ∧ Cond.isRef (.static "jdk/internal/util/Preconditions" "SIOOBE_FORMATTER" "Ljava/util/function/BiFunction;") ∈ pm_nar := by decide +kernel
theorem pm_sw3 : Cond.laysStatic Jvm.Bundle.tN "UNASSIGNED_STACK" Jvm.Bundle.steD ∈ lw_tbl ∧ Cond.initialized Jvm.Bundle.tN ∈ lw_tbl ∧ Cond.isRef (.static Jvm.Bundle.tN "UNASSIGNED_STACK" Jvm.Bundle.steD) ∈ pm_nar := by decide +kernel
theorem pm_sw4 : Cond.laysStatic Jvm.Bundle.tN "SUPPRESSED_SENTINEL" Jvm.Bundle.listD ∈ lw_tbl ∧ Cond.isRef (.static Jvm.Bundle.tN "SUPPRESSED_SENTINEL" Jvm.Bundle.listD) ∈ pm_nar := by decide +kernel
theorem pm_sw5 : Cond.not (.castable (pm_xn 2) (pm_xn 1)) ∈ pm_nar ∧ Cond.not (.castable (pm_xn 1) (pm_xn 2)) ∈ pm_nar := by decide +kernel
theorem pm_anyw {w : Cond} {A A' : Array Value} {s : State} (hg : goodWord w = true) (h : w.before A s = true) : w.before A' s = true := word_at (State.WarmedH.refl s) (good_of_word hg) h
theorem pm_world {p : Program} {l : Launch} {s : State} {b L : Nat} {xs : Nat → Int32} (hx : p.tables.exec = Jvm.exec) (hfl : l.stackTraces = false) (hts : ∀ w ∈ lw_tbl, w.before #[Value.ref b] s = true) (hX : va_X b L xs s s.heap) (hbl : b < s.heap.size) (hgv : ∀ w ∈ pm_nar, w.before #[Value.ref b] s = true) : ∃ G : pm_G, pm_E G (xs, L) p l s ∧ pm_base G = s.heap.size ∧ pm_scr G = b ∧ pm_h0 G = s.heap := by
  have hA : ∀ a : Nat, a < s.heap.size → ¬ (fun q : Nat => s.heap.size ≤ q) a := fun a h => Nat.not_le.mpr h
  obtain ⟨aK, aV, hS, he⟩ := pm_strs (A := fun q => s.heap.size ≤ q) hgv hA
  obtain ⟨cI, i1, i2⟩ := pm_arrC (hts _ pm_aI)
  obtain ⟨cJ, j1, j2⟩ := pm_arrC (hts _ pm_aJ)
  obtain ⟨cZ, z1, z2⟩ := pm_arrC (hts _ pm_aZ)
  obtain ⟨cA, a1, a2⟩ := pm_arrO (hts _ pm_ovr)
  obtain ⟨dC, dI, hK⟩ : ∃ (dC : Nat → ClassId) (dI : Nat → Nat → Nat), ∀ (k : Nat) (q : vw_C), vwCl[k]? = some q → u_Kn s q.1 q.2.1 q.2.2 (dC k) (dI k) := by
    have h0 : ∀ k : Nat, ∃ z : ClassId × (Nat → Nat), ∀ q : vw_C, vwCl[k]? = some q → u_Kn s q.1 q.2.1 q.2.2 z.1 z.2 := by
      intro k
      cases h : vwCl[k]? with
      | none => exact ⟨(0, fun _ => 0), fun q e => by cases e⟩
      | some q =>
        obtain ⟨c, i, hh⟩ := u_known hts (fun w hw => (pm_uP q (List.mem_of_getElem? h) w hw).1) (hts _ (pm_ins q (List.mem_of_getElem? h)))
        exact ⟨(c, i), fun q' e => by cases e; exact hh⟩
    obtain ⟨z, hz⟩ := Classical.axiomOfChoice h0
    exact ⟨fun k => (z k).1, fun k => (z k).2, hz⟩
  obtain ⟨vF, hF, hFr⟩ : ∃ v : Value, (Term.static "jdk/internal/util/Preconditions" "SIOOBE_FORMATTER" "Ljava/util/function/BiFunction;").eval #[Value.ref b] s none [] s = some v ∧ v.isRef = true := by
    have h := hgv _ pm_sw2.2.2
    cases hv : (Term.static "jdk/internal/util/Preconditions" "SIOOBE_FORMATTER" "Ljava/util/function/BiFunction;").eval #[Value.ref b] s none [] s with
    | none => simp [Cond.before, Cond.holds, Cond.value, hv] at h
    | some w =>
      refine ⟨w, rfl, ?_⟩
      simp only [Cond.before, Cond.holds, Cond.value, hv] at h
      cases w <;> first | rfl | simp at h
  refine ⟨(s.heap.size, b, (dC, dI), (cI, cJ, cZ, cA), aK, aV, vF, s.heap), ⟨hx, hfl, fun w hw hg args => pm_anyw hg (hts w hw), fun own i y h hm => va_Nw.of rfl (hts _ hm), fun w hm hc => ?_, va_Nc.of (hgv _ pm_sw5.1), va_Nc.of (hgv _ pm_sw5.2), over_moved (Vm.Alike.refl _) (hts _ pm_ovr), ⟨hK, fun k q h => ?_⟩, pm_refs hts hgv he, hS,
    va_Zof (hts _ pm_sw1.1) (hts _ pm_sw1.2.1) (va_eqi (hgv _ pm_sw1.2.2)) hA, va_Zof (hts _ pm_sw2.1) (hts _ pm_sw2.2.1) hF hA, hFr, vx_Zqof (hts _ pm_sw3.1) (hts _ pm_sw3.2.1) (hgv _ pm_sw3.2.2) hA, vx_Zqof (hts _ pm_sw4.1) (hts _ pm_sw3.2.1) (hgv _ pm_sw4.2) hA, hX, hbl, rfl⟩, rfl, rfl, rfl⟩
  · cases w with
    | castable C T => exact va_Nw.of rfl (hts _ hm)
    | declares x => exact va_Nw.of rfl (hts _ hm)
    | _ => cases hc
  · match k, h with
    | 0, h => cases h; exact ⟨i1, i2⟩
    | 1, h => cases h; exact ⟨j1, j2⟩
    | 2, h => cases h; exact ⟨z1, z2⟩
    | 3, h => cases h; exact ⟨a1, a2⟩
    | n + 4, h => simp [pm_tys] at h
