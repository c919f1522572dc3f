/-! THE RULES OF THE MACHINE, and what of a JVM's state stands for a state of it. -/
abbrev pm_F : Type := Nat → Nat → Nat → List Value → List Value → pm_M → pm_Q → Prop
def pm_iv3 (ins : Instr) : Option (Nat × Nat) := match ins with
  | .invokestatic i => some (i, 0)
  | .invokevirtual i => some (i, 1)
  | .invokespecial i => some (i, 2)
  | _ => none
/-- the receiver of a call of m -/
def pm_rc (m : Nat) (T : List (Nat × Nat)) (kd : Nat) (as : List Value) : Bool := if kd = 0 then true else match as with
  | .ref a :: _ => match T[a]? with
    | some (c, _) => kd = 2 || (decide (c < 13) && decide (pm_cl c = (pm_y m).cls))
    | none => false
  | .retAddr a :: _ => decide (kd = 1) && decide (pm_k m = 16) && decide (2 ≤ a) && decide (a % 2 = 0) && decide (a < 2 + 2 * pm_tx.length)
  | _ => false
def pm_xt (i : Nat) : Nat := if i = 31 then 1 else if i = 13 then 2 else 0
def pm_find : List (Nat × Nat × Nat × Nat) → Nat → Nat → Option Nat
  | [], _, _ => none
  | (a, b, h, c) :: r, pc, t => if a ≤ pc ∧ pc < b ∧ pm_xt c = t then some h else if (a ≤ pc ∧ pc < b) ∧ pm_xt c = 0 then none else pm_find r pc t
def pm_asn (ins : Instr) : Option Nat := match ins with
  | .astore_n i => some i
  | .astore i => some i
  | _ => none
def pm_ri (ins : Instr) (v : Value) : Bool := match ins, v with
  | .ireturn, .int _ => true
  | .lreturn, .long _ => true
  | .areturn, .ref _ => true
  | _, _ => false
def pm_dbl (v : Value) : Bool := match v with
  | .double _ => true
  | _ => false
def pm_C (X : (Nat → Int32) × Nat) (F : pm_F) : Prop :=
  (∀ (d m pc : Nat) (L S : List Value) (μ : pm_M) (Q : pm_Q) (ins : Instr) (n pc' : Nat) (L' S' : List Value) (μ' : pm_M), pm_code m pc = some (ins, n) → pm_step X (pm_k m) (pm_ini m) ins pc n L S μ = some (pc', L', S', μ') → F d m pc' L' S' μ' Q → F d m pc L S μ Q) ∧
  (∀ (d m pc : Nat) (L S : List Value) (μ : pm_M) (Q Q1 : pm_Q) (ins : Instr) (n i kd m' na : Nat) (nest : Bool) (as S' : List Value), pm_code m pc = some (ins, n) → pm_iv3 ins = some (i, kd) → pm_tg (pm_k m) i = some (m', na, kd, nest) → S = as.reverse ++ S' → as.length = na + (if kd = 0 then 0 else 1) → pm_rc m' μ.2.2.2.1 kd as = true → S'.length ≤ 20 → as.all (fun v => !pm_dbl v) = true → (pm_ent as).length ≤ pm_ml m' → F d m' 0 (pm_en m' as) [] μ Q1 →
    (∀ (v : Option Value) (μ1 : pm_M), Q1 (.inl v) μ1 → F (d + 1) m n L (v.toList ++ S') μ1 Q) →
    (∀ (t : Nat) (μ1 : pm_M), Q1 (.inr t) μ1 → (((pm_hh m).all (fun h => !(decide (h.1 ≤ pc) && decide (pc < h.2.1))) = true ∧ Q (.inr t) μ1) ∨ ∃ (h i9 n9 : Nat) (ins9 : Instr), t ≠ 0 ∧ pm_k m = 13 ∧ pm_find (pm_hh m) pc t = some h ∧ pm_code m h = some (ins9, n9) ∧ pm_asn ins9 = some i9 ∧ i9 < L.length ∧ F (d + 1) m n9 (pm_st L i9 pm_jk) [] μ1 Q)) → F (d + 1) m pc L S μ Q) ∧
  (∀ (d m pc n : Nat) (L : List Value) (v : Value) (μ : pm_M) (Q : pm_Q) (ins : Instr), pm_code m pc = some (ins, n) → pm_ri ins v = true → pm_rv m v = true → Q (.inl (some v)) μ → F d m pc L [v] μ Q) ∧
  (∀ (d m pc n : Nat) (L : List Value) (μ : pm_M) (Q : pm_Q), pm_code m pc = some (.return_, n) → pm_rt m = none → Q (.inl none) μ → F d m pc L [] μ Q) ∧
  (∀ (d m pc t ik is ic : Nat) (L : List Value) (I : Nat → Nat → Int32) (J : Nat → Nat → Int64) (P : Nat → Nat → Value) (T : List (Nat × Nat)) (e : Nat) (Q : pm_Q), pm_tw m pc = some (t, ik, is, ic) → e < 100000 → Q (.inr t) (I, J, P, T, e + 1) → F d m pc L [] (I, J, P, T, e) Q) ∧
  (∀ (d m pc : Nat) (L S : List Value) (μ : pm_M) (Q Q' : pm_Q), (∀ r μ', Q r μ' → Q' r μ') → F d m pc L S μ Q → F d m pc L S μ Q')
/-- the run from here ends, and as Q says -/
def pm_Ex (X : (Nat → Int32) × Nat) : pm_F := fun d m pc L S μ Q => ∀ F : pm_F, pm_C X F → F d m pc L S μ Q
def pm_Ev (X : (Nat → Int32) × Nat) (d m : Nat) (as : List Value) (μ : pm_M) (Q : pm_Q) : Prop := pm_Ex X d m 0 (pm_en m as) [] μ Q
theorem pm_step' {X : (Nat → Int32) × Nat} {d m pc : Nat} {L S : List Value} {μ : pm_M} {Q : pm_Q} {ins : Instr} {n pc' : Nat} {L' S' : List Value} {μ' : pm_M} (h : pm_code m pc = some (ins, n)) (hs : pm_step X (pm_k m) (pm_ini m) ins pc n L S μ = some (pc', L', S', μ')) (k : pm_Ex X d m pc' L' S' μ' Q) : pm_Ex X d m pc L S μ Q :=
  fun F hF => hF.1 d m pc L S μ Q ins n pc' L' S' μ' h hs (k F hF)
theorem pm_weak {X : (Nat → Int32) × Nat} {d m pc : Nat} {L S : List Value} {μ : pm_M} {Q Q' : pm_Q} (h : ∀ r μ', Q r μ' → Q' r μ') (k : pm_Ex X d m pc L S μ Q) : pm_Ex X d m pc L S μ Q' :=
  fun F hF => hF.2.2.2.2.2 d m pc L S μ Q Q' h (k F hF)
/-! ## What is fixed from the law's entry on: the first new address, the script's cell, the classes' numbers, the strings, the heap then -/
abbrev pm_G : Type := Nat × Nat × va_G × (ClassId × ClassId × ClassId × ClassId) × (Nat → Nat) × (Nat → Nat) × Value × Heap
def pm_base (G : pm_G) : Nat := G.1
def pm_scr (G : pm_G) : Nat := G.2.1
def pm_D (G : pm_G) : va_G := G.2.2.1
def pm_cI (G : pm_G) : ClassId := G.2.2.2.1.1
def pm_cJ (G : pm_G) : ClassId := G.2.2.2.1.2.1
def pm_cZ (G : pm_G) : ClassId := G.2.2.2.1.2.2.1
def pm_cA (G : pm_G) : ClassId := G.2.2.2.1.2.2.2
def pm_aK (G : pm_G) : Nat → Nat := G.2.2.2.2.1
def pm_aV (G : pm_G) : Nat → Nat := G.2.2.2.2.2.1
def pm_vF (G : pm_G) : Value := G.2.2.2.2.2.2.1
def pm_h0 (G : pm_G) : Heap := G.2.2.2.2.2.2.2
/-- the JVM's value that stands for a value -/
def pm_v (G : pm_G) (v : Value) : Value := match v with
  | .ref a => .ref (pm_base G + a)
  | .retAddr 0 => .ref (pm_scr G)
  | .retAddr 1 => pm_vF G
  | .retAddr (n + 2) => if n % 2 = 0 then .ref (pm_aK G (n / 2)) else .ref (pm_aV G (n / 2))
  | w => w
def pm_rf (G : pm_G) (v : Value) : Option Nat := match v with
  | .ref a => some (pm_base G + a)
  | _ => none
def pm_fv (G : pm_G) (c : Nat) (i : Nat → Int32) (p : Nat → Value) (f : Nat) : Value := if pm_fk c f = 0 then .int (i f) else pm_v G (p f)
def pm_e (G : pm_G) (μ : pm_M) (a : Nat) (q : Nat × Nat) : va_E :=
  if q.1 = 20 then .inl (pm_cI G, q.2, .inl (μ.1 a)) else if q.1 = 21 then .inl (pm_cJ G, q.2, .inr (.inl (μ.2.1 a))) else if q.1 = 22 then .inl (pm_cZ G, q.2, .inl (μ.1 a)) else if q.1 = 23 then .inl (pm_cA G, q.2, .inr (.inr (.inr (.inr (fun j => pm_rf G (μ.2.2.1 a j)))))) else
  .inr (q.1, (List.range q.2).map (pm_fv G q.1 (μ.1 a) (μ.2.2.1 a)))
def pm_ws (G : pm_G) (μ : pm_M) : va_W := μ.2.2.2.1.mapIdx (fun a q => (pm_base G + a, pm_e G μ a q))
def pm_A (G : pm_G) : Nat → Prop := fun q => pm_base G ≤ q
/-- the heap holds the memory -/
def pm_H (G : pm_G) (μ : pm_M) (H : Heap) (locs : List Loc) : Prop := va_P (pm_D G) vwCl (pm_ws G μ) H ∧ va_S (pm_A G) (pm_h0 G) H locs
def pm_tys (G : pm_G) : List (ClassId × FieldType) := [(pm_cI G, .int), (pm_cJ G, .long), (pm_cZ G, .boolean), (pm_cA G, .array .int)]
def pm_xn (t : Nat) : String := if t = 1 then "java/util/NoSuchElementException" else "java/lang/IllegalArgumentException"
def pm_xo (t : Nat) : String := if t = 1 then "java/lang/IllegalArgumentException" else "java/util/NoSuchElementException"
/-- the words that stay, but for which no row above speaks -/
def pm_cdw (w : Cond) : Bool := match w with | .castable _ _ => true | .declares _ => true | _ => false
/-- the words of the throws that the heap decides -/
def pm_sU : String := "UNASSIGNED_STACK"
/-- what is known of the tables, the statics and the strings at a method's entry -/
def pm_E (G : pm_G) (X : (Nat → Int32) × Nat) (p : Program) (l : Launch) (s : State) : Prop :=
  p.tables.exec = Jvm.exec ∧ l.stackTraces = false ∧ (∀ w ∈ lw_tbl, goodWord w = true → ∀ args, w.before args s = true) ∧
  (∀ (own : String) (i : Nat) (y : MethodName) (h : String), Cond.methodLinkNest own i y h ∈ lw_tbl → va_Nw (.methodLinkNest own i y h) s) ∧
  (∀ w : Cond, w ∈ lw_tbl → pm_cdw w = true → va_Nw w s) ∧ va_Nc (pm_xn 2) (pm_xn 1) s ∧ va_Nc (pm_xn 1) (pm_xn 2) s ∧
  (Cond.arrayOver (.array .int)).before #[] s = true ∧ va_K (pm_D G) vwCl (pm_tys G) s ∧
  (∀ (k i x : Nat), pm_ct k i = some (.retAddr x) → ∃ tx : String, vk_R (pm_cl k) i tx (pm_aK G ((x - 2) / 2)) s) ∧
  vk_S pm_tx.length (pm_tx.map List.length) (pm_tx.map (fun t => t.map nI)) (pm_aK G) (pm_aV G) (pm_A G) s (pm_h0 G) ∧
  va_Z "java/lang/String" "COMPACT_STRINGS" "Z" (.int 1) (pm_A G) s (pm_h0 G) ∧ va_Z "jdk/internal/util/Preconditions" "SIOOBE_FORMATTER" "Ljava/util/function/BiFunction;" (pm_vF G) (pm_A G) s (pm_h0 G) ∧ (pm_vF G).isRef = true ∧
  vx_Zq Jvm.Bundle.tN "UNASSIGNED_STACK" Jvm.Bundle.steD (pm_A G) s (pm_h0 G) ∧ vx_Zq Jvm.Bundle.tN "SUPPRESSED_SENTINEL" Jvm.Bundle.listD (pm_A G) s (pm_h0 G) ∧
  va_X (pm_scr G) X.2 X.1 s (pm_h0 G) ∧ pm_scr G < pm_base G ∧ (pm_h0 G).size = pm_base G
/-- the method that runs -/
def pm_mt (m : Nat) (s : State) (mid : MethodId) (meth : Method) (c : Code) : Prop :=
  c.code = pm_by m ∧ c.maxLocals = pm_ml m ∧ meth.sig.returnType = pm_rt m ∧ meth.locks = false ∧ c.exceptionTable.toList.map (fun h => (h.startPc, h.endPc, h.handlerPc, h.catchType)) = pm_hh m ∧ s.vm.findClass (pm_cl (pm_k m)) = some mid.cls ∧ meth.name = (pm_y m).name
def pm_cap (μ : pm_M) : Nat := (2000 - μ.2.2.2.1.length) + (100000 - μ.2.2.2.2)
def pm_cas (μ : pm_M) : Nat := (200000 - pm_sm μ.2.2.2.1) + 6 * (100000 - μ.2.2.2.2)
/-- how a run ends -/
def pm_o (G : pm_G) (s t : State) (r : pm_R) (o : Outcome) : Prop := match r with
  | .inl v => o = .returned (v.map (pm_v G))
  | .inr k => (k = 1 ∨ k = 2) ∧ ∃ (q : Addr) (ce : Cell), o = .threw q ∧ t.heap[q]? = some ce ∧ ce.vm = .none ∧ s.vm.findClass (pm_xn k) = some ce.cls
def pm_Z (G : pm_G) (below : List Frame) (s : State) (C1 C2 : Nat) (Q : pm_Q) : State → Prop := fun t =>
  ∃ (r : pm_R) (μ' : pm_M) (o : Outcome) (locs : List Loc) (cells slots : Nat), t.status = .running ∧ Ended t below o ∧ pm_o G s t r o ∧ s.WarmedH t.vm ∧ s.sameButNew ({ t with vm := s.vm } : State) locs cells slots ∧ pm_H G μ' t.heap locs ∧ (μ'.2.2.2.2 = 0 → s.heap.size + cells ≤ pm_base G + μ'.2.2.2.1.length) ∧ cells + pm_cap μ' ≤ C1 ∧ slots + pm_cas μ' ≤ C2 ∧ Q r μ'
/-- locals that are known -/
def pm_lv (G : pm_G) : Nat → List Value → List (Nat × Value)
  | _, [] => []
  | k, v :: t => match v with
    | .double _ => pm_lv G (k + 1) t
    | w => (k, pm_v G w) :: pm_lv G (k + 1) t
/-- on every JVM that stands so, the run comes to such an end -/
def pm_B (G : pm_G) (X : (Nat → Int32) × Nat) : pm_F := fun d m pc L S μ Q => ∀ (p : Program) (l : Launch) (e : Env) (R : Room) (s : State) (mid : MethodId) (args : Array Value) (below : List Frame) (meth : Method) (c : Code) (H : Heap) (locs : List Loc) (cells slots : Nat) (ls : Array Slot) (C1 C2 : Nat),
  pm_E G X p l s → pm_mt m s mid meth c → 8 + d ≤ R.frames → 512 + 128 * d ≤ R.locals → C1 ≤ R.cells → C2 ≤ R.slots → cells + pm_cap μ ≤ C1 → slots + pm_cas μ ≤ C2 → L.length = pm_ml m → lv_has ls (pm_ml m) (pm_lv G 0 L) → pm_H G μ H locs → (μ.2.2.2.2 = 0 → s.heap.size + cells ≤ pm_base G + μ.2.2.2.1.length) → va_S (pm_A G) (pm_h0 G) s.heap [] →
  W p l e R s mid args below meth c H locs cells slots (pm_Z G below s C1 C2 Q) (F0 mid pc ls (S.map (pm_v G)))
