/-! AT THE LAW'S ENTRY: what the state there says of the strings -/
def pm_stm : List (Nat × Nat) := [(11, 366), (5, 93), (5, 99), (5, 101), (5, 103), (5, 104), (2, 97), (2, 103), (2, 105), (2, 107), (2, 109), (2, 111), (2, 113), (2, 115), (2, 117), (2, 119), (7, 95), (7, 101), (7, 103), (7, 105), (7, 107), (7, 109), (7, 111), (7, 115), (11, 376), (11, 382)]
def pm_stx : List String := ["an argument is outside its range", "signer", "taker", "kinsman", "stores", "voyage", "least", "most", "years", "added", "trade", "hungry", "kin", "lost", "placed", "week", "land", "place", "add", "strike", "lose", "copy", "pay", "again", "no such signer", "no such taker"]
def pm_str (q : Nat × Nat) : Term := .string (pm_cl q.1) q.2
def pm_tm (i : Nat) : Term := pm_str (pm_stm.getD i (0, 0))
def pm_sat (tm : Term) (t : List Nat) : List Cond :=
  [.exactly tm "java/lang/String", .eq (.field tm "java/lang/String" "coder" "B") (.int 0), .arrayOf (.field tm "java/lang/String" "value" "[B") .byte, .eq (.length (.field tm "java/lang/String" "value" "[B")) (.int (Int32.ofNat t.length))] ++ (List.range t.length).map (fun j => .eq (.elem (.field tm "java/lang/String" "value" "[B") (.int (Int32.ofNat j))) (.int ((t.map nI).getD j 0)))
def pm_nar : List Cond := flatC (Jvm.Cond.and given_1 narrow_1)
theorem pm_sub_k : ∀ i, i < 26 → (pm_sat (pm_tm i) (pm_tx.getD i [])).Sublist pm_nar := by decide +kernel
theorem pm_tx_n : pm_tx.length = 26 := by decide +kernel
theorem pm_sub {i : Nat} (h : i < pm_tx.length) : ∀ w ∈ pm_sat (pm_tm i) (pm_tx.getD i []), w ∈ pm_nar := fun w hw => (pm_sub_k i (by rw [← pm_tx_n]; exact h)).subset hw
theorem pm_tlt_k : ∀ i, i < 26 → (pm_tx.getD i []).length < 2 ^ 31 := by decide +kernel
theorem pm_tlt {i : Nat} (h : i < pm_tx.length) : (pm_tx.getD i []).length < 2 ^ 31 := pm_tlt_k i (by rw [← pm_tx_n]; exact h)
theorem pm_tdi_k : ∀ i, i < 26 → ∀ j, j < 26 → (pm_tx.getD i []).map nI = (pm_tx.getD j []).map nI → i = j := by decide +kernel
theorem pm_tdi {i j : Nat} (hi : i < pm_tx.length) (hj : j < pm_tx.length) (e : (pm_tx.getD i []).map nI = (pm_tx.getD j []).map nI) : i = j := pm_tdi_k i (by rw [← pm_tx_n]; exact hi) j (by rw [← pm_tx_n]; exact hj) e
def pm_s4 (A : Nat → Prop) (s : State) (t : List Nat) (q : Nat × Nat) : Prop := va_O "java/lang/String" q.1 A s s.heap ∧ va_OF "java/lang/String" "coder" "B" (.int 0) q.1 A s s.heap ∧ va_OF "java/lang/String" "value" "[B" (.ref q.2) q.1 A s s.heap ∧ va_T .byte q.2 t.length (fun j => .int ((t.map nI).getD j 0)) A s s.heap
theorem pm_sone {args : Array Value} {s : State} {tm : Term} {t : List Nat} {A : Nat → Prop} (ht : t.length < 2 ^ 31) (h : ∀ w ∈ pm_sat tm t, w.before args s = true) (hA : ∀ a : Nat, a < s.heap.size → ¬ A a) : ∃ q : Nat × Nat, tm.eval args s none [] s = some (.ref q.1) ∧ pm_s4 A s t q := by
  have z : ∀ i : Nat, i < 1 → i = 0 := fun i hi => by omega
  obtain ⟨adK, adV, hS, he⟩ := vk_Sof (args := args) (s := s) (N := 1) (tm := fun _ => tm) (len := [t.length]) (byt := [t.map nI]) (A := A)
    (fun i hi => by rw [z i hi]; exact ht)
    (fun i hi => h _ (List.mem_append_left _ List.mem_cons_self))
    (fun i hi => h _ (List.mem_append_left _ (List.mem_cons_of_mem _ List.mem_cons_self)))
    (fun i hi => h _ (List.mem_append_left _ (List.mem_cons_of_mem _ (List.mem_cons_of_mem _ List.mem_cons_self))))
    (fun i hi => by rw [z i hi]; exact h _ (List.mem_append_left _ (List.mem_cons_of_mem _ (List.mem_cons_of_mem _ (List.mem_cons_of_mem _ List.mem_cons_self)))))
    (fun i hi j hj => by
      rw [z i hi] at hj ⊢
      exact h _ (List.mem_append_right _ (List.mem_map.mpr ⟨j, List.mem_range.mpr hj, rfl⟩)))
    (fun i j hi hj hij => absurd ((z i hi).trans (z j hj).symm) hij) hA
  exact ⟨(adK 0, adV 0), he 0 (by omega), hS.1 0 (by omega)⟩
theorem pm_sinj {s : State} {A : Nat → Prop} {a v1 v2 n1 n2 : Nat} {f1 f2 : Nat → Value} (h1 : va_OF "java/lang/String" "value" "[B" (.ref v1) a A s s.heap) (h2 : va_OF "java/lang/String" "value" "[B" (.ref v2) a A s s.heap) (t1 : va_T .byte v1 n1 f1 A s s.heap) (t2 : va_T .byte v2 n2 f2 A s s.heap) (b1 : n1 < 2 ^ 31) (b2 : n2 < 2 ^ 31) : n1 = n2 ∧ ∀ j, j < n1 → f1 j = f2 j := by
  obtain ⟨cf, k, i, f, cell, g1, g2, g3, g4, g5, g6⟩ := h1
  obtain ⟨cf', k', i', f', cell', e1, e2, e3, e4, e5, e6⟩ := h2
  cases g1.symm.trans e1
  cases g3.symm.trans e3
  cases g5.symm.trans e5
  obtain ⟨c, p1, p2, p3, p4, p5, p6, p7⟩ := t1
  obtain ⟨c', r1, r2, r3, r4, r5, r6, r7⟩ := t2
  cases p1.symm.trans r1
  have hn : n1 = n2 := by
    have e := congrArg Int32.toNatClampNeg (p5.symm.trans r5)
    rwa [Int32.toNatClampNeg_ofNat_of_lt b1, Int32.toNatClampNeg_ofNat_of_lt b2] at e
  subst hn
  exact ⟨rfl, fun j hj => Option.some.inj ((p6 j hj).symm.trans (r6 j hj))⟩
theorem pm_lext {a b : List Int32} (n : a.length = b.length) (f : ∀ j, j < a.length → Value.int (a.getD j 0) = .int (b.getD j 0)) : a = b := by
  refine List.ext_getElem n (fun j h1 h2 => ?_)
  have e := Value.int.inj (f j h1)
  rw [List.getD_eq_getElem?_getD, List.getD_eq_getElem?_getD, List.getElem?_eq_getElem h1, List.getElem?_eq_getElem h2] at e
  exact e
theorem pm_strs {args : Array Value} {s : State} {A : Nat → Prop} (h : ∀ w ∈ pm_nar, w.before args s = true) (hA : ∀ a : Nat, a < s.heap.size → ¬ A a) : ∃ aK aV : Nat → Nat, vk_S pm_tx.length (pm_tx.map List.length) (pm_tx.map (fun t => t.map nI)) aK aV A s s.heap ∧ ∀ i, i < pm_tx.length → (pm_tm i).eval args s none [] s = some (.ref (aK i)) := by
  have h0 : ∀ i : Nat, ∃ q : Nat × Nat, i < pm_tx.length → (pm_tm i).eval args s none [] s = some (.ref q.1) ∧ pm_s4 A s (pm_tx.getD i []) q := by
    intro i
    by_cases hi : i < pm_tx.length
    · obtain ⟨q, hq⟩ := pm_sone (pm_tlt hi) (fun w hw => h w (pm_sub hi w hw)) hA
      exact ⟨q, fun _ => hq⟩
    · exact ⟨(0, 0), fun h => absurd h hi⟩
  obtain ⟨ad, had⟩ := Classical.axiomOfChoice h0
  have e1 : ∀ i, (pm_tx.map List.length).getD i 0 = (pm_tx.getD i []).length := by
    intro i
    rw [List.getD_eq_getElem?_getD, List.getD_eq_getElem?_getD, List.getElem?_map]
    cases pm_tx[i]? <;> rfl
  have e2 : ∀ i, (pm_tx.map (fun t => t.map nI)).getD i [] = (pm_tx.getD i []).map nI := by
    intro i
    rw [List.getD_eq_getElem?_getD, List.getD_eq_getElem?_getD, List.getElem?_map]
    cases pm_tx[i]? <;> rfl
  refine ⟨fun i => (ad i).1, fun i => (ad i).2, ⟨fun i hi => ?_, fun i j hi hj e => ?_⟩, fun i hi => (had i hi).1⟩
  · rw [e1, e2]
    exact (had i hi).2
  · obtain ⟨-, -, -, o1, t1⟩ := had i hi
    obtain ⟨-, -, -, o2, t2⟩ := had j hj
    have e : (ad i).1 = (ad j).1 := e
    rw [e] at o1
    obtain ⟨n, f⟩ := pm_sinj o1 o2 t1 t2 (pm_tlt hi) (pm_tlt hj)
    exact pm_tdi hi hj (pm_lext (by rw [List.length_map, List.length_map]; exact n) (fun j hj => f j (by rw [List.length_map] at hj; exact hj)))
def pm_rch (q : (Nat × Nat) × Value) : Bool := match q.2 with
  | .retAddr x => decide (Cond.stringRef (pm_cl q.1.1) q.1.2 (pm_stx.getD ((x - 2) / 2) "") ∈ lw_tbl) && (decide (pm_stm.getD ((x - 2) / 2) (0, 0) = q.1) || decide (Cond.eq (pm_tm ((x - 2) / 2)) (pm_str q.1) ∈ pm_nar))
  | _ => true
theorem pm_rchs : pm_ctl.all pm_rch = true := by decide +kernel
theorem pm_rch_at {k i x : Nat} (h : pm_rch ((k, i), .retAddr x) = true) : Cond.stringRef (pm_cl k) i (pm_stx.getD ((x - 2) / 2) "") ∈ lw_tbl ∧ (pm_stm.getD ((x - 2) / 2) (0, 0) = (k, i) ∨ Cond.eq (pm_tm ((x - 2) / 2)) (pm_str (k, i)) ∈ pm_nar) := by
  unfold pm_rch at h
  simp only [Bool.and_eq_true, Bool.or_eq_true, decide_eq_true_eq] at h
  exact h
theorem pm_refs {args : Array Value} {s : State} {aK : Nat → Nat} (hts : ∀ w ∈ lw_tbl, w.before args s = true) (hs : ∀ w ∈ pm_nar, w.before args s = true) (he : ∀ i, i < pm_tx.length → (pm_tm i).eval args s none [] s = some (.ref (aK i))) : ∀ k i x : Nat, pm_ct k i = some (.retAddr x) → ∃ tx : String, vk_R (pm_cl k) i tx (aK ((x - 2) / 2)) s := by
  intro k i x h
  have h1 := pm_look h
  obtain ⟨-, -, h2⟩ := pm_ct_ok h
  obtain ⟨a1, a2, a3⟩ := h2 x rfl
  have hj : (x - 2) / 2 < pm_tx.length := by omega
  have h3 := pm_rch_at (List.all_eq_true.mp pm_rchs _ h1)
  refine ⟨_, vk_R.of (hts _ h3.1) ?_⟩
  rcases h3.2 with e | e
  · have h5 := he _ hj
    unfold pm_tm at h5
    rw [e] at h5
    exact h5
  · exact va_eqR (hs _ e) (he _ hj)
