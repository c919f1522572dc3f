/-! ROWS: a run whose end is known -/
def pm_Fx (X : (Nat → Int32) × Nat) (d m pc : Nat) (L S : List Value) (μ : pm_M) (r : pm_R) (ν : pm_M) : Prop := ∀ Q : pm_Q, Q r ν → pm_Ex X d m pc L S μ Q
/-- a method's whole run: its call's conditions with it -/
def pm_Fn (X : (Nat → Int32) × Nat) (d m kd : Nat) (as : List Value) (μ : pm_M) (r : pm_R) (ν : pm_M) : Prop :=
  pm_rc m μ.2.2.2.1 kd as = true ∧ as.all (fun v => !pm_dbl v) = true ∧ (pm_ent as).length ≤ pm_ml m ∧ pm_Fx X d m 0 (pm_en m as) [] μ r ν
def pm_nl (v : Value) : Bool := match v with | .long _ => false | _ => true
def pm_tt (pc : Nat) (off : Int) (t : Nat) : Bool := decide ((0 : Int) ≤ (pc : Int) + off) && decide (pm_to pc off = t)
theorem pm_tt_sp {pc t : Nat} {off : Int} (h : pm_tt pc off t = true) : (0 : Int) ≤ (pc : Int) + off ∧ pm_to pc off = t := by
  unfold pm_tt at h
  simp only [Bool.and_eq_true, decide_eq_true_eq] at h
  exact h
section Rows
variable {X : (Nat → Int32) × Nat} {d m pc n t : Nat} {L S : List Value} {μ ν : pm_M} {r : pm_R} {I : Nat → Nat → Int32} {J : Nat → Nat → Int64} {P : Nat → Nat → Value} {T : List (Nat × Nat)} {e : Nat}
theorem fx_step {ins : Instr} {pc' : Nat} {L' S' : List Value} {μ' : pm_M} (h : pm_code m pc = some (ins, n)) (hs : pm_step X (pm_k m) (pm_ini m) ins pc n L S μ = some (pc', L', S', μ')) (k : pm_Fx X d m pc' L' S' μ' r ν) : pm_Fx X d m pc L S μ r ν :=
  fun Q hQ => pm_step' h hs (k Q hQ)
theorem fx_eq {L' S' : List Value} {μ' : pm_M} (h1 : L = L') (h2 : S = S') (h3 : μ = μ') (k : pm_Fx X d m pc L' S' μ' r ν) : pm_Fx X d m pc L S μ r ν := by subst h1; subst h2; subst h3; exact k
theorem fx_to {r' : pm_R} {ν' : pm_M} (h1 : r' = r) (h2 : ν' = ν) (k : pm_Fx X d m pc L S μ r' ν') : pm_Fx X d m pc L S μ r ν := by subst h1; subst h2; exact k
theorem fn_s {as : List Value} {N : Nat} (hml : pm_ml m = N) (hL : pm_ent as ++ List.replicate (N - (pm_ent as).length) pm_jk = L) (hd : as.all (fun v => !pm_dbl v) = true) (hl : Nat.ble (pm_ent as).length N = true) (k : pm_Fx X d m 0 L [] μ r ν) : pm_Fn X d m 0 as μ r ν := by
  refine ⟨rfl, hd, by rw [hml]; exact Nat.le_of_ble_eq_true hl, ?_⟩
  unfold pm_en
  rw [hml, hL]
  exact k
theorem fn_v {as : List Value} {a c nf N : Nat} (hcl : pm_cl c = (pm_y m).cls) (hT : μ.2.2.2.1[a]? = some (c, nf)) (hml : pm_ml m = N) (hL : pm_ent (.ref a :: as) ++ List.replicate (N - (pm_ent (.ref a :: as)).length) pm_jk = L) (hd : as.all (fun v => !pm_dbl v) = true) (hl : Nat.ble (pm_ent (.ref a :: as)).length N = true) (hc : Nat.blt c 13 = true) (k : pm_Fx X d m 0 L [] μ r ν) : pm_Fn X d m 1 (.ref a :: as) μ r ν := by
  refine ⟨?_, ?_, by rw [hml]; exact Nat.le_of_ble_eq_true hl, ?_⟩
  · have hc' : c < 13 := Nat.le_of_ble_eq_true hc
    simp [pm_rc, hT, hcl, hc']
  · rw [List.all_cons, hd]; rfl
  · unfold pm_en
    rw [hml, hL]
    exact k
theorem fn_i {as : List Value} {a c nf N : Nat} (hT : μ.2.2.2.1[a]? = some (c, nf)) (hml : pm_ml m = N) (hL : pm_ent (.ref a :: as) ++ List.replicate (N - (pm_ent (.ref a :: as)).length) pm_jk = L) (hd : as.all (fun v => !pm_dbl v) = true) (hl : Nat.ble (pm_ent (.ref a :: as)).length N = true) (k : pm_Fx X d m 0 L [] μ r ν) : pm_Fn X d m 2 (.ref a :: as) μ r ν := by
  refine ⟨?_, ?_, by rw [hml]; exact Nat.le_of_ble_eq_true hl, ?_⟩
  · simp [pm_rc, hT]
  · rw [List.all_cons, hd]; rfl
  · unfold pm_en
    rw [hml, hL]
    exact k
theorem fn_t {as : List Value} {a N : Nat} (hk : pm_k m = 16) (ha : (decide (2 ≤ a) && decide (a % 2 = 0) && decide (a < 2 + 2 * pm_tx.length)) = true) (hml : pm_ml m = N) (hL : pm_ent (.retAddr a :: as) ++ List.replicate (N - (pm_ent (.retAddr a :: as)).length) pm_jk = L) (hd : as.all (fun v => !pm_dbl v) = true) (hl : Nat.ble (pm_ent (.retAddr a :: as)).length N = true) (k : pm_Fx X d m 0 L [] μ r ν) : pm_Fn X d m 1 (.retAddr a :: as) μ r ν := by
  refine ⟨?_, ?_, by rw [hml]; exact Nat.le_of_ble_eq_true hl, ?_⟩
  · simp only [Bool.and_eq_true, decide_eq_true_eq] at ha
    simp [pm_rc, hk, ha.1.1, ha.1.2, ha.2]
  · rw [List.all_cons, hd]; rfl
  · unfold pm_en
    rw [hml, hL]
    exact k
theorem fn_to {kd : Nat} {as : List Value} {r' : pm_R} {ν' : pm_M} (h1 : r' = r) (h2 : ν' = ν) (k : pm_Fn X d m kd as μ r' ν') : pm_Fn X d m kd as μ r ν := by subst h1; subst h2; exact k
theorem al0 {a : Nat} {l : List Value} (h : pm_code m pc = some (.aload_n 0, n)) (k : pm_Fx X d m n (.ref a :: l) (.ref a :: S) μ r ν) : pm_Fx X d m pc (.ref a :: l) S μ r ν := fx_step h rfl k
theorem at0 {a : Nat} {l : List Value} (h : pm_code m pc = some (.aload_n 0, n)) (k : pm_Fx X d m n (.retAddr (a + 2) :: l) (.retAddr (a + 2) :: S) μ r ν) : pm_Fx X d m pc (.retAddr (a + 2) :: l) S μ r ν := fx_step h rfl k
theorem az0 {l : List Value} (h : pm_code m pc = some (.aload_n 0, n)) (k : pm_Fx X d m n (.retAddr 0 :: l) (.retAddr 0 :: S) μ r ν) : pm_Fx X d m pc (.retAddr 0 :: l) S μ r ν := fx_step h rfl k
theorem il0 {x : Int32} {l : List Value} (h : pm_code m pc = some (.iload_n 0, n)) (k : pm_Fx X d m n (.int x :: l) (.int x :: S) μ r ν) : pm_Fx X d m pc (.int x :: l) S μ r ν := fx_step h rfl k
theorem ll0 {x : Int64} {l : List Value} (h : pm_code m pc = some (.lload_n 0, n)) (k : pm_Fx X d m n (.long x :: l) (.long x :: S) μ r ν) : pm_Fx X d m pc (.long x :: l) S μ r ν := fx_step h rfl k
theorem is0 {y : Value} {x : Int32} {l : List Value} (h : pm_code m pc = some (.istore_n 0, n)) (k : pm_Fx X d m n (.int x :: l) S μ r ν) : pm_Fx X d m pc (y :: l) (.int x :: S) μ r ν := fx_step h rfl k
theorem rs0 {y : Value} {x : Nat} {l : List Value} (h : pm_code m pc = some (.astore_n 0, n)) (k : pm_Fx X d m n (.ref x :: l) S μ r ν) : pm_Fx X d m pc (y :: l) (.ref x :: S) μ r ν := fx_step h rfl k
theorem ls0 {y z : Value} {x : Int64} {l : List Value} (h : pm_code m pc = some (.lstore_n 0, n)) (k : pm_Fx X d m n (.long x :: pm_jk :: l) S μ r ν) : pm_Fx X d m pc (y :: z :: l) (.long x :: S) μ r ν := fx_step h rfl k
theorem ii0 {x y : Int32} {c : Int} {l : List Value} (h : pm_code m pc = some (.iinc 0 c, n)) (hy : Int32.ofInt c = y) (k : pm_Fx X d m n (.int (x + y) :: l) S μ r ν) : pm_Fx X d m pc (.int x :: l) S μ r ν := by
  subst hy
  exact fx_step h rfl k
theorem al1 {x0 : Value} {a : Nat} {l : List Value} (h : pm_code m pc = some (.aload_n 1, n)) (k : pm_Fx X d m n (x0 :: .ref a :: l) (.ref a :: S) μ r ν) : pm_Fx X d m pc (x0 :: .ref a :: l) S μ r ν := fx_step h rfl k
theorem at1 {x0 : Value} {a : Nat} {l : List Value} (h : pm_code m pc = some (.aload_n 1, n)) (k : pm_Fx X d m n (x0 :: .retAddr (a + 2) :: l) (.retAddr (a + 2) :: S) μ r ν) : pm_Fx X d m pc (x0 :: .retAddr (a + 2) :: l) S μ r ν := fx_step h rfl k
theorem az1 {x0 : Value} {l : List Value} (h : pm_code m pc = some (.aload_n 1, n)) (k : pm_Fx X d m n (x0 :: .retAddr 0 :: l) (.retAddr 0 :: S) μ r ν) : pm_Fx X d m pc (x0 :: .retAddr 0 :: l) S μ r ν := fx_step h rfl k
theorem il1 {x0 : Value} {x : Int32} {l : List Value} (h : pm_code m pc = some (.iload_n 1, n)) (k : pm_Fx X d m n (x0 :: .int x :: l) (.int x :: S) μ r ν) : pm_Fx X d m pc (x0 :: .int x :: l) S μ r ν := fx_step h rfl k
theorem ll1 {x0 : Value} {x : Int64} {l : List Value} (h : pm_code m pc = some (.lload_n 1, n)) (k : pm_Fx X d m n (x0 :: .long x :: l) (.long x :: S) μ r ν) : pm_Fx X d m pc (x0 :: .long x :: l) S μ r ν := fx_step h rfl k
theorem is1 {x0 : Value} {y : Value} {x : Int32} {l : List Value} (h : pm_code m pc = some (.istore_n 1, n)) (hp : pm_nl x0 = true) (k : pm_Fx X d m n (x0 :: .int x :: l) S μ r ν) : pm_Fx X d m pc (x0 :: y :: l) (.int x :: S) μ r ν := by
  refine fx_step h ?_ k
  cases x0 <;> first | rfl | cases hp
theorem rs1 {x0 : Value} {y : Value} {x : Nat} {l : List Value} (h : pm_code m pc = some (.astore_n 1, n)) (hp : pm_nl x0 = true) (k : pm_Fx X d m n (x0 :: .ref x :: l) S μ r ν) : pm_Fx X d m pc (x0 :: y :: l) (.ref x :: S) μ r ν := by
  refine fx_step h ?_ k
  cases x0 <;> first | rfl | cases hp
theorem ls1 {x0 : Value} {y z : Value} {x : Int64} {l : List Value} (h : pm_code m pc = some (.lstore_n 1, n)) (hp : pm_nl x0 = true) (k : pm_Fx X d m n (x0 :: .long x :: pm_jk :: l) S μ r ν) : pm_Fx X d m pc (x0 :: y :: z :: l) (.long x :: S) μ r ν := by
  refine fx_step h ?_ k
  cases x0 <;> first | rfl | cases hp
theorem ii1 {x0 : Value} {x y : Int32} {c : Int} {l : List Value} (h : pm_code m pc = some (.iinc 1 c, n)) (hy : Int32.ofInt c = y) (hp : pm_nl x0 = true) (k : pm_Fx X d m n (x0 :: .int (x + y) :: l) S μ r ν) : pm_Fx X d m pc (x0 :: .int x :: l) S μ r ν := by
  subst hy
  refine fx_step h ?_ k
  cases x0 <;> first | rfl | cases hp
theorem al2 {x0 x1 : Value} {a : Nat} {l : List Value} (h : pm_code m pc = some (.aload_n 2, n)) (k : pm_Fx X d m n (x0 :: x1 :: .ref a :: l) (.ref a :: S) μ r ν) : pm_Fx X d m pc (x0 :: x1 :: .ref a :: l) S μ r ν := fx_step h rfl k
theorem at2 {x0 x1 : Value} {a : Nat} {l : List Value} (h : pm_code m pc = some (.aload_n 2, n)) (k : pm_Fx X d m n (x0 :: x1 :: .retAddr (a + 2) :: l) (.retAddr (a + 2) :: S) μ r ν) : pm_Fx X d m pc (x0 :: x1 :: .retAddr (a + 2) :: l) S μ r ν := fx_step h rfl k
theorem az2 {x0 x1 : Value} {l : List Value} (h : pm_code m pc = some (.aload_n 2, n)) (k : pm_Fx X d m n (x0 :: x1 :: .retAddr 0 :: l) (.retAddr 0 :: S) μ r ν) : pm_Fx X d m pc (x0 :: x1 :: .retAddr 0 :: l) S μ r ν := fx_step h rfl k
theorem il2 {x0 x1 : Value} {x : Int32} {l : List Value} (h : pm_code m pc = some (.iload_n 2, n)) (k : pm_Fx X d m n (x0 :: x1 :: .int x :: l) (.int x :: S) μ r ν) : pm_Fx X d m pc (x0 :: x1 :: .int x :: l) S μ r ν := fx_step h rfl k
theorem ll2 {x0 x1 : Value} {x : Int64} {l : List Value} (h : pm_code m pc = some (.lload_n 2, n)) (k : pm_Fx X d m n (x0 :: x1 :: .long x :: l) (.long x :: S) μ r ν) : pm_Fx X d m pc (x0 :: x1 :: .long x :: l) S μ r ν := fx_step h rfl k
theorem is2 {x0 x1 : Value} {y : Value} {x : Int32} {l : List Value} (h : pm_code m pc = some (.istore_n 2, n)) (hp : pm_nl x1 = true) (k : pm_Fx X d m n (x0 :: x1 :: .int x :: l) S μ r ν) : pm_Fx X d m pc (x0 :: x1 :: y :: l) (.int x :: S) μ r ν := by
  refine fx_step h ?_ k
  cases x1 <;> first | rfl | cases hp
theorem rs2 {x0 x1 : Value} {y : Value} {x : Nat} {l : List Value} (h : pm_code m pc = some (.astore_n 2, n)) (hp : pm_nl x1 = true) (k : pm_Fx X d m n (x0 :: x1 :: .ref x :: l) S μ r ν) : pm_Fx X d m pc (x0 :: x1 :: y :: l) (.ref x :: S) μ r ν := by
  refine fx_step h ?_ k
  cases x1 <;> first | rfl | cases hp
theorem ls2 {x0 x1 : Value} {y z : Value} {x : Int64} {l : List Value} (h : pm_code m pc = some (.lstore_n 2, n)) (hp : pm_nl x1 = true) (k : pm_Fx X d m n (x0 :: x1 :: .long x :: pm_jk :: l) S μ r ν) : pm_Fx X d m pc (x0 :: x1 :: y :: z :: l) (.long x :: S) μ r ν := by
  refine fx_step h ?_ k
  cases x1 <;> first | rfl | cases hp
theorem ii2 {x0 x1 : Value} {x y : Int32} {c : Int} {l : List Value} (h : pm_code m pc = some (.iinc 2 c, n)) (hy : Int32.ofInt c = y) (hp : pm_nl x1 = true) (k : pm_Fx X d m n (x0 :: x1 :: .int (x + y) :: l) S μ r ν) : pm_Fx X d m pc (x0 :: x1 :: .int x :: l) S μ r ν := by
  subst hy
  refine fx_step h ?_ k
  cases x1 <;> first | rfl | cases hp
theorem al3 {x0 x1 x2 : Value} {a : Nat} {l : List Value} (h : pm_code m pc = some (.aload_n 3, n)) (k : pm_Fx X d m n (x0 :: x1 :: x2 :: .ref a :: l) (.ref a :: S) μ r ν) : pm_Fx X d m pc (x0 :: x1 :: x2 :: .ref a :: l) S μ r ν := fx_step h rfl k
theorem il3 {x0 x1 x2 : Value} {x : Int32} {l : List Value} (h : pm_code m pc = some (.iload_n 3, n)) (k : pm_Fx X d m n (x0 :: x1 :: x2 :: .int x :: l) (.int x :: S) μ r ν) : pm_Fx X d m pc (x0 :: x1 :: x2 :: .int x :: l) S μ r ν := fx_step h rfl k
theorem ll3 {x0 x1 x2 : Value} {x : Int64} {l : List Value} (h : pm_code m pc = some (.lload_n 3, n)) (k : pm_Fx X d m n (x0 :: x1 :: x2 :: .long x :: l) (.long x :: S) μ r ν) : pm_Fx X d m pc (x0 :: x1 :: x2 :: .long x :: l) S μ r ν := fx_step h rfl k
theorem is3 {x0 x1 x2 : Value} {y : Value} {x : Int32} {l : List Value} (h : pm_code m pc = some (.istore_n 3, n)) (hp : pm_nl x2 = true) (k : pm_Fx X d m n (x0 :: x1 :: x2 :: .int x :: l) S μ r ν) : pm_Fx X d m pc (x0 :: x1 :: x2 :: y :: l) (.int x :: S) μ r ν := by
  refine fx_step h ?_ k
  cases x2 <;> first | rfl | cases hp
theorem rs3 {x0 x1 x2 : Value} {y : Value} {x : Nat} {l : List Value} (h : pm_code m pc = some (.astore_n 3, n)) (hp : pm_nl x2 = true) (k : pm_Fx X d m n (x0 :: x1 :: x2 :: .ref x :: l) S μ r ν) : pm_Fx X d m pc (x0 :: x1 :: x2 :: y :: l) (.ref x :: S) μ r ν := by
  refine fx_step h ?_ k
  cases x2 <;> first | rfl | cases hp
theorem ls3 {x0 x1 x2 : Value} {y z : Value} {x : Int64} {l : List Value} (h : pm_code m pc = some (.lstore_n 3, n)) (hp : pm_nl x2 = true) (k : pm_Fx X d m n (x0 :: x1 :: x2 :: .long x :: pm_jk :: l) S μ r ν) : pm_Fx X d m pc (x0 :: x1 :: x2 :: y :: z :: l) (.long x :: S) μ r ν := by
  refine fx_step h ?_ k
  cases x2 <;> first | rfl | cases hp
theorem ii3 {x0 x1 x2 : Value} {x y : Int32} {c : Int} {l : List Value} (h : pm_code m pc = some (.iinc 3 c, n)) (hy : Int32.ofInt c = y) (hp : pm_nl x2 = true) (k : pm_Fx X d m n (x0 :: x1 :: x2 :: .int (x + y) :: l) S μ r ν) : pm_Fx X d m pc (x0 :: x1 :: x2 :: .int x :: l) S μ r ν := by
  subst hy
  refine fx_step h ?_ k
  cases x2 <;> first | rfl | cases hp
theorem al4 {x0 x1 x2 x3 : Value} {a : Nat} {l : List Value} (h : pm_code m pc = some (.aload 4, n)) (k : pm_Fx X d m n (x0 :: x1 :: x2 :: x3 :: .ref a :: l) (.ref a :: S) μ r ν) : pm_Fx X d m pc (x0 :: x1 :: x2 :: x3 :: .ref a :: l) S μ r ν := fx_step h rfl k
theorem il4 {x0 x1 x2 x3 : Value} {x : Int32} {l : List Value} (h : pm_code m pc = some (.iload 4, n)) (k : pm_Fx X d m n (x0 :: x1 :: x2 :: x3 :: .int x :: l) (.int x :: S) μ r ν) : pm_Fx X d m pc (x0 :: x1 :: x2 :: x3 :: .int x :: l) S μ r ν := fx_step h rfl k
theorem ll4 {x0 x1 x2 x3 : Value} {x : Int64} {l : List Value} (h : pm_code m pc = some (.lload 4, n)) (k : pm_Fx X d m n (x0 :: x1 :: x2 :: x3 :: .long x :: l) (.long x :: S) μ r ν) : pm_Fx X d m pc (x0 :: x1 :: x2 :: x3 :: .long x :: l) S μ r ν := fx_step h rfl k
theorem is4 {x0 x1 x2 x3 : Value} {y : Value} {x : Int32} {l : List Value} (h : pm_code m pc = some (.istore 4, n)) (hp : pm_nl x3 = true) (k : pm_Fx X d m n (x0 :: x1 :: x2 :: x3 :: .int x :: l) S μ r ν) : pm_Fx X d m pc (x0 :: x1 :: x2 :: x3 :: y :: l) (.int x :: S) μ r ν := by
  refine fx_step h ?_ k
  cases x3 <;> first | rfl | cases hp
theorem rs4 {x0 x1 x2 x3 : Value} {y : Value} {x : Nat} {l : List Value} (h : pm_code m pc = some (.astore 4, n)) (hp : pm_nl x3 = true) (k : pm_Fx X d m n (x0 :: x1 :: x2 :: x3 :: .ref x :: l) S μ r ν) : pm_Fx X d m pc (x0 :: x1 :: x2 :: x3 :: y :: l) (.ref x :: S) μ r ν := by
  refine fx_step h ?_ k
  cases x3 <;> first | rfl | cases hp
theorem ls4 {x0 x1 x2 x3 : Value} {y z : Value} {x : Int64} {l : List Value} (h : pm_code m pc = some (.lstore 4, n)) (hp : pm_nl x3 = true) (k : pm_Fx X d m n (x0 :: x1 :: x2 :: x3 :: .long x :: pm_jk :: l) S μ r ν) : pm_Fx X d m pc (x0 :: x1 :: x2 :: x3 :: y :: z :: l) (.long x :: S) μ r ν := by
  refine fx_step h ?_ k
  cases x3 <;> first | rfl | cases hp
theorem ii4 {x0 x1 x2 x3 : Value} {x y : Int32} {c : Int} {l : List Value} (h : pm_code m pc = some (.iinc 4 c, n)) (hy : Int32.ofInt c = y) (hp : pm_nl x3 = true) (k : pm_Fx X d m n (x0 :: x1 :: x2 :: x3 :: .int (x + y) :: l) S μ r ν) : pm_Fx X d m pc (x0 :: x1 :: x2 :: x3 :: .int x :: l) S μ r ν := by
  subst hy
  refine fx_step h ?_ k
  cases x3 <;> first | rfl | cases hp
theorem al5 {x0 x1 x2 x3 x4 : Value} {a : Nat} {l : List Value} (h : pm_code m pc = some (.aload 5, n)) (k : pm_Fx X d m n (x0 :: x1 :: x2 :: x3 :: x4 :: .ref a :: l) (.ref a :: S) μ r ν) : pm_Fx X d m pc (x0 :: x1 :: x2 :: x3 :: x4 :: .ref a :: l) S μ r ν := fx_step h rfl k
theorem il5 {x0 x1 x2 x3 x4 : Value} {x : Int32} {l : List Value} (h : pm_code m pc = some (.iload 5, n)) (k : pm_Fx X d m n (x0 :: x1 :: x2 :: x3 :: x4 :: .int x :: l) (.int x :: S) μ r ν) : pm_Fx X d m pc (x0 :: x1 :: x2 :: x3 :: x4 :: .int x :: l) S μ r ν := fx_step h rfl k
theorem ll5 {x0 x1 x2 x3 x4 : Value} {x : Int64} {l : List Value} (h : pm_code m pc = some (.lload 5, n)) (k : pm_Fx X d m n (x0 :: x1 :: x2 :: x3 :: x4 :: .long x :: l) (.long x :: S) μ r ν) : pm_Fx X d m pc (x0 :: x1 :: x2 :: x3 :: x4 :: .long x :: l) S μ r ν := fx_step h rfl k
theorem is5 {x0 x1 x2 x3 x4 : Value} {y : Value} {x : Int32} {l : List Value} (h : pm_code m pc = some (.istore 5, n)) (hp : pm_nl x4 = true) (k : pm_Fx X d m n (x0 :: x1 :: x2 :: x3 :: x4 :: .int x :: l) S μ r ν) : pm_Fx X d m pc (x0 :: x1 :: x2 :: x3 :: x4 :: y :: l) (.int x :: S) μ r ν := by
  refine fx_step h ?_ k
  cases x4 <;> first | rfl | cases hp
theorem rs5 {x0 x1 x2 x3 x4 : Value} {y : Value} {x : Nat} {l : List Value} (h : pm_code m pc = some (.astore 5, n)) (hp : pm_nl x4 = true) (k : pm_Fx X d m n (x0 :: x1 :: x2 :: x3 :: x4 :: .ref x :: l) S μ r ν) : pm_Fx X d m pc (x0 :: x1 :: x2 :: x3 :: x4 :: y :: l) (.ref x :: S) μ r ν := by
  refine fx_step h ?_ k
  cases x4 <;> first | rfl | cases hp
theorem ls5 {x0 x1 x2 x3 x4 : Value} {y z : Value} {x : Int64} {l : List Value} (h : pm_code m pc = some (.lstore 5, n)) (hp : pm_nl x4 = true) (k : pm_Fx X d m n (x0 :: x1 :: x2 :: x3 :: x4 :: .long x :: pm_jk :: l) S μ r ν) : pm_Fx X d m pc (x0 :: x1 :: x2 :: x3 :: x4 :: y :: z :: l) (.long x :: S) μ r ν := by
  refine fx_step h ?_ k
  cases x4 <;> first | rfl | cases hp
theorem ii5 {x0 x1 x2 x3 x4 : Value} {x y : Int32} {c : Int} {l : List Value} (h : pm_code m pc = some (.iinc 5 c, n)) (hy : Int32.ofInt c = y) (hp : pm_nl x4 = true) (k : pm_Fx X d m n (x0 :: x1 :: x2 :: x3 :: x4 :: .int (x + y) :: l) S μ r ν) : pm_Fx X d m pc (x0 :: x1 :: x2 :: x3 :: x4 :: .int x :: l) S μ r ν := by
  subst hy
  refine fx_step h ?_ k
  cases x4 <;> first | rfl | cases hp
theorem al6 {x0 x1 x2 x3 x4 x5 : Value} {a : Nat} {l : List Value} (h : pm_code m pc = some (.aload 6, n)) (k : pm_Fx X d m n (x0 :: x1 :: x2 :: x3 :: x4 :: x5 :: .ref a :: l) (.ref a :: S) μ r ν) : pm_Fx X d m pc (x0 :: x1 :: x2 :: x3 :: x4 :: x5 :: .ref a :: l) S μ r ν := fx_step h rfl k
theorem il6 {x0 x1 x2 x3 x4 x5 : Value} {x : Int32} {l : List Value} (h : pm_code m pc = some (.iload 6, n)) (k : pm_Fx X d m n (x0 :: x1 :: x2 :: x3 :: x4 :: x5 :: .int x :: l) (.int x :: S) μ r ν) : pm_Fx X d m pc (x0 :: x1 :: x2 :: x3 :: x4 :: x5 :: .int x :: l) S μ r ν := fx_step h rfl k
theorem ll6 {x0 x1 x2 x3 x4 x5 : Value} {x : Int64} {l : List Value} (h : pm_code m pc = some (.lload 6, n)) (k : pm_Fx X d m n (x0 :: x1 :: x2 :: x3 :: x4 :: x5 :: .long x :: l) (.long x :: S) μ r ν) : pm_Fx X d m pc (x0 :: x1 :: x2 :: x3 :: x4 :: x5 :: .long x :: l) S μ r ν := fx_step h rfl k
theorem is6 {x0 x1 x2 x3 x4 x5 : Value} {y : Value} {x : Int32} {l : List Value} (h : pm_code m pc = some (.istore 6, n)) (hp : pm_nl x5 = true) (k : pm_Fx X d m n (x0 :: x1 :: x2 :: x3 :: x4 :: x5 :: .int x :: l) S μ r ν) : pm_Fx X d m pc (x0 :: x1 :: x2 :: x3 :: x4 :: x5 :: y :: l) (.int x :: S) μ r ν := by
  refine fx_step h ?_ k
  cases x5 <;> first | rfl | cases hp
theorem rs6 {x0 x1 x2 x3 x4 x5 : Value} {y : Value} {x : Nat} {l : List Value} (h : pm_code m pc = some (.astore 6, n)) (hp : pm_nl x5 = true) (k : pm_Fx X d m n (x0 :: x1 :: x2 :: x3 :: x4 :: x5 :: .ref x :: l) S μ r ν) : pm_Fx X d m pc (x0 :: x1 :: x2 :: x3 :: x4 :: x5 :: y :: l) (.ref x :: S) μ r ν := by
  refine fx_step h ?_ k
  cases x5 <;> first | rfl | cases hp
theorem ls6 {x0 x1 x2 x3 x4 x5 : Value} {y z : Value} {x : Int64} {l : List Value} (h : pm_code m pc = some (.lstore 6, n)) (hp : pm_nl x5 = true) (k : pm_Fx X d m n (x0 :: x1 :: x2 :: x3 :: x4 :: x5 :: .long x :: pm_jk :: l) S μ r ν) : pm_Fx X d m pc (x0 :: x1 :: x2 :: x3 :: x4 :: x5 :: y :: z :: l) (.long x :: S) μ r ν := by
  refine fx_step h ?_ k
  cases x5 <;> first | rfl | cases hp
theorem ii6 {x0 x1 x2 x3 x4 x5 : Value} {x y : Int32} {c : Int} {l : List Value} (h : pm_code m pc = some (.iinc 6 c, n)) (hy : Int32.ofInt c = y) (hp : pm_nl x5 = true) (k : pm_Fx X d m n (x0 :: x1 :: x2 :: x3 :: x4 :: x5 :: .int (x + y) :: l) S μ r ν) : pm_Fx X d m pc (x0 :: x1 :: x2 :: x3 :: x4 :: x5 :: .int x :: l) S μ r ν := by
  subst hy
  refine fx_step h ?_ k
  cases x5 <;> first | rfl | cases hp
theorem al7 {x0 x1 x2 x3 x4 x5 x6 : Value} {a : Nat} {l : List Value} (h : pm_code m pc = some (.aload 7, n)) (k : pm_Fx X d m n (x0 :: x1 :: x2 :: x3 :: x4 :: x5 :: x6 :: .ref a :: l) (.ref a :: S) μ r ν) : pm_Fx X d m pc (x0 :: x1 :: x2 :: x3 :: x4 :: x5 :: x6 :: .ref a :: l) S μ r ν := fx_step h rfl k
theorem il7 {x0 x1 x2 x3 x4 x5 x6 : Value} {x : Int32} {l : List Value} (h : pm_code m pc = some (.iload 7, n)) (k : pm_Fx X d m n (x0 :: x1 :: x2 :: x3 :: x4 :: x5 :: x6 :: .int x :: l) (.int x :: S) μ r ν) : pm_Fx X d m pc (x0 :: x1 :: x2 :: x3 :: x4 :: x5 :: x6 :: .int x :: l) S μ r ν := fx_step h rfl k
theorem ll7 {x0 x1 x2 x3 x4 x5 x6 : Value} {x : Int64} {l : List Value} (h : pm_code m pc = some (.lload 7, n)) (k : pm_Fx X d m n (x0 :: x1 :: x2 :: x3 :: x4 :: x5 :: x6 :: .long x :: l) (.long x :: S) μ r ν) : pm_Fx X d m pc (x0 :: x1 :: x2 :: x3 :: x4 :: x5 :: x6 :: .long x :: l) S μ r ν := fx_step h rfl k
theorem is7 {x0 x1 x2 x3 x4 x5 x6 : Value} {y : Value} {x : Int32} {l : List Value} (h : pm_code m pc = some (.istore 7, n)) (hp : pm_nl x6 = true) (k : pm_Fx X d m n (x0 :: x1 :: x2 :: x3 :: x4 :: x5 :: x6 :: .int x :: l) S μ r ν) : pm_Fx X d m pc (x0 :: x1 :: x2 :: x3 :: x4 :: x5 :: x6 :: y :: l) (.int x :: S) μ r ν := by
  refine fx_step h ?_ k
  cases x6 <;> first | rfl | cases hp
theorem rs7 {x0 x1 x2 x3 x4 x5 x6 : Value} {y : Value} {x : Nat} {l : List Value} (h : pm_code m pc = some (.astore 7, n)) (hp : pm_nl x6 = true) (k : pm_Fx X d m n (x0 :: x1 :: x2 :: x3 :: x4 :: x5 :: x6 :: .ref x :: l) S μ r ν) : pm_Fx X d m pc (x0 :: x1 :: x2 :: x3 :: x4 :: x5 :: x6 :: y :: l) (.ref x :: S) μ r ν := by
  refine fx_step h ?_ k
  cases x6 <;> first | rfl | cases hp
theorem ls7 {x0 x1 x2 x3 x4 x5 x6 : Value} {y z : Value} {x : Int64} {l : List Value} (h : pm_code m pc = some (.lstore 7, n)) (hp : pm_nl x6 = true) (k : pm_Fx X d m n (x0 :: x1 :: x2 :: x3 :: x4 :: x5 :: x6 :: .long x :: pm_jk :: l) S μ r ν) : pm_Fx X d m pc (x0 :: x1 :: x2 :: x3 :: x4 :: x5 :: x6 :: y :: z :: l) (.long x :: S) μ r ν := by
  refine fx_step h ?_ k
  cases x6 <;> first | rfl | cases hp
theorem ii7 {x0 x1 x2 x3 x4 x5 x6 : Value} {x y : Int32} {c : Int} {l : List Value} (h : pm_code m pc = some (.iinc 7 c, n)) (hy : Int32.ofInt c = y) (hp : pm_nl x6 = true) (k : pm_Fx X d m n (x0 :: x1 :: x2 :: x3 :: x4 :: x5 :: x6 :: .int (x + y) :: l) S μ r ν) : pm_Fx X d m pc (x0 :: x1 :: x2 :: x3 :: x4 :: x5 :: x6 :: .int x :: l) S μ r ν := by
  subst hy
  refine fx_step h ?_ k
  cases x6 <;> first | rfl | cases hp
theorem al8 {x0 x1 x2 x3 x4 x5 x6 x7 : Value} {a : Nat} {l : List Value} (h : pm_code m pc = some (.aload 8, n)) (k : pm_Fx X d m n (x0 :: x1 :: x2 :: x3 :: x4 :: x5 :: x6 :: x7 :: .ref a :: l) (.ref a :: S) μ r ν) : pm_Fx X d m pc (x0 :: x1 :: x2 :: x3 :: x4 :: x5 :: x6 :: x7 :: .ref a :: l) S μ r ν := fx_step h rfl k
theorem il8 {x0 x1 x2 x3 x4 x5 x6 x7 : Value} {x : Int32} {l : List Value} (h : pm_code m pc = some (.iload 8, n)) (k : pm_Fx X d m n (x0 :: x1 :: x2 :: x3 :: x4 :: x5 :: x6 :: x7 :: .int x :: l) (.int x :: S) μ r ν) : pm_Fx X d m pc (x0 :: x1 :: x2 :: x3 :: x4 :: x5 :: x6 :: x7 :: .int x :: l) S μ r ν := fx_step h rfl k
theorem ll8 {x0 x1 x2 x3 x4 x5 x6 x7 : Value} {x : Int64} {l : List Value} (h : pm_code m pc = some (.lload 8, n)) (k : pm_Fx X d m n (x0 :: x1 :: x2 :: x3 :: x4 :: x5 :: x6 :: x7 :: .long x :: l) (.long x :: S) μ r ν) : pm_Fx X d m pc (x0 :: x1 :: x2 :: x3 :: x4 :: x5 :: x6 :: x7 :: .long x :: l) S μ r ν := fx_step h rfl k
theorem is8 {x0 x1 x2 x3 x4 x5 x6 x7 : Value} {y : Value} {x : Int32} {l : List Value} (h : pm_code m pc = some (.istore 8, n)) (hp : pm_nl x7 = true) (k : pm_Fx X d m n (x0 :: x1 :: x2 :: x3 :: x4 :: x5 :: x6 :: x7 :: .int x :: l) S μ r ν) : pm_Fx X d m pc (x0 :: x1 :: x2 :: x3 :: x4 :: x5 :: x6 :: x7 :: y :: l) (.int x :: S) μ r ν := by
  refine fx_step h ?_ k
  cases x7 <;> first | rfl | cases hp
theorem rs8 {x0 x1 x2 x3 x4 x5 x6 x7 : Value} {y : Value} {x : Nat} {l : List Value} (h : pm_code m pc = some (.astore 8, n)) (hp : pm_nl x7 = true) (k : pm_Fx X d m n (x0 :: x1 :: x2 :: x3 :: x4 :: x5 :: x6 :: x7 :: .ref x :: l) S μ r ν) : pm_Fx X d m pc (x0 :: x1 :: x2 :: x3 :: x4 :: x5 :: x6 :: x7 :: y :: l) (.ref x :: S) μ r ν := by
  refine fx_step h ?_ k
  cases x7 <;> first | rfl | cases hp
theorem ls8 {x0 x1 x2 x3 x4 x5 x6 x7 : Value} {y z : Value} {x : Int64} {l : List Value} (h : pm_code m pc = some (.lstore 8, n)) (hp : pm_nl x7 = true) (k : pm_Fx X d m n (x0 :: x1 :: x2 :: x3 :: x4 :: x5 :: x6 :: x7 :: .long x :: pm_jk :: l) S μ r ν) : pm_Fx X d m pc (x0 :: x1 :: x2 :: x3 :: x4 :: x5 :: x6 :: x7 :: y :: z :: l) (.long x :: S) μ r ν := by
  refine fx_step h ?_ k
  cases x7 <;> first | rfl | cases hp
theorem ii8 {x0 x1 x2 x3 x4 x5 x6 x7 : Value} {x y : Int32} {c : Int} {l : List Value} (h : pm_code m pc = some (.iinc 8 c, n)) (hy : Int32.ofInt c = y) (hp : pm_nl x7 = true) (k : pm_Fx X d m n (x0 :: x1 :: x2 :: x3 :: x4 :: x5 :: x6 :: x7 :: .int (x + y) :: l) S μ r ν) : pm_Fx X d m pc (x0 :: x1 :: x2 :: x3 :: x4 :: x5 :: x6 :: x7 :: .int x :: l) S μ r ν := by
  subst hy
  refine fx_step h ?_ k
  cases x7 <;> first | rfl | cases hp
theorem al9 {x0 x1 x2 x3 x4 x5 x6 x7 x8 : Value} {a : Nat} {l : List Value} (h : pm_code m pc = some (.aload 9, n)) (k : pm_Fx X d m n (x0 :: x1 :: x2 :: x3 :: x4 :: x5 :: x6 :: x7 :: x8 :: .ref a :: l) (.ref a :: S) μ r ν) : pm_Fx X d m pc (x0 :: x1 :: x2 :: x3 :: x4 :: x5 :: x6 :: x7 :: x8 :: .ref a :: l) S μ r ν := fx_step h rfl k
theorem il9 {x0 x1 x2 x3 x4 x5 x6 x7 x8 : Value} {x : Int32} {l : List Value} (h : pm_code m pc = some (.iload 9, n)) (k : pm_Fx X d m n (x0 :: x1 :: x2 :: x3 :: x4 :: x5 :: x6 :: x7 :: x8 :: .int x :: l) (.int x :: S) μ r ν) : pm_Fx X d m pc (x0 :: x1 :: x2 :: x3 :: x4 :: x5 :: x6 :: x7 :: x8 :: .int x :: l) S μ r ν := fx_step h rfl k
theorem ll9 {x0 x1 x2 x3 x4 x5 x6 x7 x8 : Value} {x : Int64} {l : List Value} (h : pm_code m pc = some (.lload 9, n)) (k : pm_Fx X d m n (x0 :: x1 :: x2 :: x3 :: x4 :: x5 :: x6 :: x7 :: x8 :: .long x :: l) (.long x :: S) μ r ν) : pm_Fx X d m pc (x0 :: x1 :: x2 :: x3 :: x4 :: x5 :: x6 :: x7 :: x8 :: .long x :: l) S μ r ν := fx_step h rfl k
theorem is9 {x0 x1 x2 x3 x4 x5 x6 x7 x8 : Value} {y : Value} {x : Int32} {l : List Value} (h : pm_code m pc = some (.istore 9, n)) (hp : pm_nl x8 = true) (k : pm_Fx X d m n (x0 :: x1 :: x2 :: x3 :: x4 :: x5 :: x6 :: x7 :: x8 :: .int x :: l) S μ r ν) : pm_Fx X d m pc (x0 :: x1 :: x2 :: x3 :: x4 :: x5 :: x6 :: x7 :: x8 :: y :: l) (.int x :: S) μ r ν := by
  refine fx_step h ?_ k
  cases x8 <;> first | rfl | cases hp
theorem rs9 {x0 x1 x2 x3 x4 x5 x6 x7 x8 : Value} {y : Value} {x : Nat} {l : List Value} (h : pm_code m pc = some (.astore 9, n)) (hp : pm_nl x8 = true) (k : pm_Fx X d m n (x0 :: x1 :: x2 :: x3 :: x4 :: x5 :: x6 :: x7 :: x8 :: .ref x :: l) S μ r ν) : pm_Fx X d m pc (x0 :: x1 :: x2 :: x3 :: x4 :: x5 :: x6 :: x7 :: x8 :: y :: l) (.ref x :: S) μ r ν := by
  refine fx_step h ?_ k
  cases x8 <;> first | rfl | cases hp
theorem ls9 {x0 x1 x2 x3 x4 x5 x6 x7 x8 : Value} {y z : Value} {x : Int64} {l : List Value} (h : pm_code m pc = some (.lstore 9, n)) (hp : pm_nl x8 = true) (k : pm_Fx X d m n (x0 :: x1 :: x2 :: x3 :: x4 :: x5 :: x6 :: x7 :: x8 :: .long x :: pm_jk :: l) S μ r ν) : pm_Fx X d m pc (x0 :: x1 :: x2 :: x3 :: x4 :: x5 :: x6 :: x7 :: x8 :: y :: z :: l) (.long x :: S) μ r ν := by
  refine fx_step h ?_ k
  cases x8 <;> first | rfl | cases hp
theorem ii9 {x0 x1 x2 x3 x4 x5 x6 x7 x8 : Value} {x y : Int32} {c : Int} {l : List Value} (h : pm_code m pc = some (.iinc 9 c, n)) (hy : Int32.ofInt c = y) (hp : pm_nl x8 = true) (k : pm_Fx X d m n (x0 :: x1 :: x2 :: x3 :: x4 :: x5 :: x6 :: x7 :: x8 :: .int (x + y) :: l) S μ r ν) : pm_Fx X d m pc (x0 :: x1 :: x2 :: x3 :: x4 :: x5 :: x6 :: x7 :: x8 :: .int x :: l) S μ r ν := by
  subst hy
  refine fx_step h ?_ k
  cases x8 <;> first | rfl | cases hp
theorem al10 {x0 x1 x2 x3 x4 x5 x6 x7 x8 x9 : Value} {a : Nat} {l : List Value} (h : pm_code m pc = some (.aload 10, n)) (k : pm_Fx X d m n (x0 :: x1 :: x2 :: x3 :: x4 :: x5 :: x6 :: x7 :: x8 :: x9 :: .ref a :: l) (.ref a :: S) μ r ν) : pm_Fx X d m pc (x0 :: x1 :: x2 :: x3 :: x4 :: x5 :: x6 :: x7 :: x8 :: x9 :: .ref a :: l) S μ r ν := fx_step h rfl k
theorem il10 {x0 x1 x2 x3 x4 x5 x6 x7 x8 x9 : Value} {x : Int32} {l : List Value} (h : pm_code m pc = some (.iload 10, n)) (k : pm_Fx X d m n (x0 :: x1 :: x2 :: x3 :: x4 :: x5 :: x6 :: x7 :: x8 :: x9 :: .int x :: l) (.int x :: S) μ r ν) : pm_Fx X d m pc (x0 :: x1 :: x2 :: x3 :: x4 :: x5 :: x6 :: x7 :: x8 :: x9 :: .int x :: l) S μ r ν := fx_step h rfl k
theorem ll10 {x0 x1 x2 x3 x4 x5 x6 x7 x8 x9 : Value} {x : Int64} {l : List Value} (h : pm_code m pc = some (.lload 10, n)) (k : pm_Fx X d m n (x0 :: x1 :: x2 :: x3 :: x4 :: x5 :: x6 :: x7 :: x8 :: x9 :: .long x :: l) (.long x :: S) μ r ν) : pm_Fx X d m pc (x0 :: x1 :: x2 :: x3 :: x4 :: x5 :: x6 :: x7 :: x8 :: x9 :: .long x :: l) S μ r ν := fx_step h rfl k
theorem is10 {x0 x1 x2 x3 x4 x5 x6 x7 x8 x9 : Value} {y : Value} {x : Int32} {l : List Value} (h : pm_code m pc = some (.istore 10, n)) (hp : pm_nl x9 = true) (k : pm_Fx X d m n (x0 :: x1 :: x2 :: x3 :: x4 :: x5 :: x6 :: x7 :: x8 :: x9 :: .int x :: l) S μ r ν) : pm_Fx X d m pc (x0 :: x1 :: x2 :: x3 :: x4 :: x5 :: x6 :: x7 :: x8 :: x9 :: y :: l) (.int x :: S) μ r ν := by
  refine fx_step h ?_ k
  cases x9 <;> first | rfl | cases hp
theorem rs10 {x0 x1 x2 x3 x4 x5 x6 x7 x8 x9 : Value} {y : Value} {x : Nat} {l : List Value} (h : pm_code m pc = some (.astore 10, n)) (hp : pm_nl x9 = true) (k : pm_Fx X d m n (x0 :: x1 :: x2 :: x3 :: x4 :: x5 :: x6 :: x7 :: x8 :: x9 :: .ref x :: l) S μ r ν) : pm_Fx X d m pc (x0 :: x1 :: x2 :: x3 :: x4 :: x5 :: x6 :: x7 :: x8 :: x9 :: y :: l) (.ref x :: S) μ r ν := by
  refine fx_step h ?_ k
  cases x9 <;> first | rfl | cases hp
theorem ls10 {x0 x1 x2 x3 x4 x5 x6 x7 x8 x9 : Value} {y z : Value} {x : Int64} {l : List Value} (h : pm_code m pc = some (.lstore 10, n)) (hp : pm_nl x9 = true) (k : pm_Fx X d m n (x0 :: x1 :: x2 :: x3 :: x4 :: x5 :: x6 :: x7 :: x8 :: x9 :: .long x :: pm_jk :: l) S μ r ν) : pm_Fx X d m pc (x0 :: x1 :: x2 :: x3 :: x4 :: x5 :: x6 :: x7 :: x8 :: x9 :: y :: z :: l) (.long x :: S) μ r ν := by
  refine fx_step h ?_ k
  cases x9 <;> first | rfl | cases hp
theorem ii10 {x0 x1 x2 x3 x4 x5 x6 x7 x8 x9 : Value} {x y : Int32} {c : Int} {l : List Value} (h : pm_code m pc = some (.iinc 10 c, n)) (hy : Int32.ofInt c = y) (hp : pm_nl x9 = true) (k : pm_Fx X d m n (x0 :: x1 :: x2 :: x3 :: x4 :: x5 :: x6 :: x7 :: x8 :: x9 :: .int (x + y) :: l) S μ r ν) : pm_Fx X d m pc (x0 :: x1 :: x2 :: x3 :: x4 :: x5 :: x6 :: x7 :: x8 :: x9 :: .int x :: l) S μ r ν := by
  subst hy
  refine fx_step h ?_ k
  cases x9 <;> first | rfl | cases hp
theorem al11 {x0 x1 x2 x3 x4 x5 x6 x7 x8 x9 x10 : Value} {a : Nat} {l : List Value} (h : pm_code m pc = some (.aload 11, n)) (k : pm_Fx X d m n (x0 :: x1 :: x2 :: x3 :: x4 :: x5 :: x6 :: x7 :: x8 :: x9 :: x10 :: .ref a :: l) (.ref a :: S) μ r ν) : pm_Fx X d m pc (x0 :: x1 :: x2 :: x3 :: x4 :: x5 :: x6 :: x7 :: x8 :: x9 :: x10 :: .ref a :: l) S μ r ν := fx_step h rfl k
theorem il11 {x0 x1 x2 x3 x4 x5 x6 x7 x8 x9 x10 : Value} {x : Int32} {l : List Value} (h : pm_code m pc = some (.iload 11, n)) (k : pm_Fx X d m n (x0 :: x1 :: x2 :: x3 :: x4 :: x5 :: x6 :: x7 :: x8 :: x9 :: x10 :: .int x :: l) (.int x :: S) μ r ν) : pm_Fx X d m pc (x0 :: x1 :: x2 :: x3 :: x4 :: x5 :: x6 :: x7 :: x8 :: x9 :: x10 :: .int x :: l) S μ r ν := fx_step h rfl k
theorem ll11 {x0 x1 x2 x3 x4 x5 x6 x7 x8 x9 x10 : Value} {x : Int64} {l : List Value} (h : pm_code m pc = some (.lload 11, n)) (k : pm_Fx X d m n (x0 :: x1 :: x2 :: x3 :: x4 :: x5 :: x6 :: x7 :: x8 :: x9 :: x10 :: .long x :: l) (.long x :: S) μ r ν) : pm_Fx X d m pc (x0 :: x1 :: x2 :: x3 :: x4 :: x5 :: x6 :: x7 :: x8 :: x9 :: x10 :: .long x :: l) S μ r ν := fx_step h rfl k
theorem is11 {x0 x1 x2 x3 x4 x5 x6 x7 x8 x9 x10 : Value} {y : Value} {x : Int32} {l : List Value} (h : pm_code m pc = some (.istore 11, n)) (hp : pm_nl x10 = true) (k : pm_Fx X d m n (x0 :: x1 :: x2 :: x3 :: x4 :: x5 :: x6 :: x7 :: x8 :: x9 :: x10 :: .int x :: l) S μ r ν) : pm_Fx X d m pc (x0 :: x1 :: x2 :: x3 :: x4 :: x5 :: x6 :: x7 :: x8 :: x9 :: x10 :: y :: l) (.int x :: S) μ r ν := by
  refine fx_step h ?_ k
  cases x10 <;> first | rfl | cases hp
theorem rs11 {x0 x1 x2 x3 x4 x5 x6 x7 x8 x9 x10 : Value} {y : Value} {x : Nat} {l : List Value} (h : pm_code m pc = some (.astore 11, n)) (hp : pm_nl x10 = true) (k : pm_Fx X d m n (x0 :: x1 :: x2 :: x3 :: x4 :: x5 :: x6 :: x7 :: x8 :: x9 :: x10 :: .ref x :: l) S μ r ν) : pm_Fx X d m pc (x0 :: x1 :: x2 :: x3 :: x4 :: x5 :: x6 :: x7 :: x8 :: x9 :: x10 :: y :: l) (.ref x :: S) μ r ν := by
  refine fx_step h ?_ k
  cases x10 <;> first | rfl | cases hp
theorem ls11 {x0 x1 x2 x3 x4 x5 x6 x7 x8 x9 x10 : Value} {y z : Value} {x : Int64} {l : List Value} (h : pm_code m pc = some (.lstore 11, n)) (hp : pm_nl x10 = true) (k : pm_Fx X d m n (x0 :: x1 :: x2 :: x3 :: x4 :: x5 :: x6 :: x7 :: x8 :: x9 :: x10 :: .long x :: pm_jk :: l) S μ r ν) : pm_Fx X d m pc (x0 :: x1 :: x2 :: x3 :: x4 :: x5 :: x6 :: x7 :: x8 :: x9 :: x10 :: y :: z :: l) (.long x :: S) μ r ν := by
  refine fx_step h ?_ k
  cases x10 <;> first | rfl | cases hp
theorem ii11 {x0 x1 x2 x3 x4 x5 x6 x7 x8 x9 x10 : Value} {x y : Int32} {c : Int} {l : List Value} (h : pm_code m pc = some (.iinc 11 c, n)) (hy : Int32.ofInt c = y) (hp : pm_nl x10 = true) (k : pm_Fx X d m n (x0 :: x1 :: x2 :: x3 :: x4 :: x5 :: x6 :: x7 :: x8 :: x9 :: x10 :: .int (x + y) :: l) S μ r ν) : pm_Fx X d m pc (x0 :: x1 :: x2 :: x3 :: x4 :: x5 :: x6 :: x7 :: x8 :: x9 :: x10 :: .int x :: l) S μ r ν := by
  subst hy
  refine fx_step h ?_ k
  cases x10 <;> first | rfl | cases hp
theorem al12 {x0 x1 x2 x3 x4 x5 x6 x7 x8 x9 x10 x11 : Value} {a : Nat} {l : List Value} (h : pm_code m pc = some (.aload 12, n)) (k : pm_Fx X d m n (x0 :: x1 :: x2 :: x3 :: x4 :: x5 :: x6 :: x7 :: x8 :: x9 :: x10 :: x11 :: .ref a :: l) (.ref a :: S) μ r ν) : pm_Fx X d m pc (x0 :: x1 :: x2 :: x3 :: x4 :: x5 :: x6 :: x7 :: x8 :: x9 :: x10 :: x11 :: .ref a :: l) S μ r ν := fx_step h rfl k
theorem il12 {x0 x1 x2 x3 x4 x5 x6 x7 x8 x9 x10 x11 : Value} {x : Int32} {l : List Value} (h : pm_code m pc = some (.iload 12, n)) (k : pm_Fx X d m n (x0 :: x1 :: x2 :: x3 :: x4 :: x5 :: x6 :: x7 :: x8 :: x9 :: x10 :: x11 :: .int x :: l) (.int x :: S) μ r ν) : pm_Fx X d m pc (x0 :: x1 :: x2 :: x3 :: x4 :: x5 :: x6 :: x7 :: x8 :: x9 :: x10 :: x11 :: .int x :: l) S μ r ν := fx_step h rfl k
theorem ll12 {x0 x1 x2 x3 x4 x5 x6 x7 x8 x9 x10 x11 : Value} {x : Int64} {l : List Value} (h : pm_code m pc = some (.lload 12, n)) (k : pm_Fx X d m n (x0 :: x1 :: x2 :: x3 :: x4 :: x5 :: x6 :: x7 :: x8 :: x9 :: x10 :: x11 :: .long x :: l) (.long x :: S) μ r ν) : pm_Fx X d m pc (x0 :: x1 :: x2 :: x3 :: x4 :: x5 :: x6 :: x7 :: x8 :: x9 :: x10 :: x11 :: .long x :: l) S μ r ν := fx_step h rfl k
theorem is12 {x0 x1 x2 x3 x4 x5 x6 x7 x8 x9 x10 x11 : Value} {y : Value} {x : Int32} {l : List Value} (h : pm_code m pc = some (.istore 12, n)) (hp : pm_nl x11 = true) (k : pm_Fx X d m n (x0 :: x1 :: x2 :: x3 :: x4 :: x5 :: x6 :: x7 :: x8 :: x9 :: x10 :: x11 :: .int x :: l) S μ r ν) : pm_Fx X d m pc (x0 :: x1 :: x2 :: x3 :: x4 :: x5 :: x6 :: x7 :: x8 :: x9 :: x10 :: x11 :: y :: l) (.int x :: S) μ r ν := by
  refine fx_step h ?_ k
  cases x11 <;> first | rfl | cases hp
theorem rs12 {x0 x1 x2 x3 x4 x5 x6 x7 x8 x9 x10 x11 : Value} {y : Value} {x : Nat} {l : List Value} (h : pm_code m pc = some (.astore 12, n)) (hp : pm_nl x11 = true) (k : pm_Fx X d m n (x0 :: x1 :: x2 :: x3 :: x4 :: x5 :: x6 :: x7 :: x8 :: x9 :: x10 :: x11 :: .ref x :: l) S μ r ν) : pm_Fx X d m pc (x0 :: x1 :: x2 :: x3 :: x4 :: x5 :: x6 :: x7 :: x8 :: x9 :: x10 :: x11 :: y :: l) (.ref x :: S) μ r ν := by
  refine fx_step h ?_ k
  cases x11 <;> first | rfl | cases hp
theorem ls12 {x0 x1 x2 x3 x4 x5 x6 x7 x8 x9 x10 x11 : Value} {y z : Value} {x : Int64} {l : List Value} (h : pm_code m pc = some (.lstore 12, n)) (hp : pm_nl x11 = true) (k : pm_Fx X d m n (x0 :: x1 :: x2 :: x3 :: x4 :: x5 :: x6 :: x7 :: x8 :: x9 :: x10 :: x11 :: .long x :: pm_jk :: l) S μ r ν) : pm_Fx X d m pc (x0 :: x1 :: x2 :: x3 :: x4 :: x5 :: x6 :: x7 :: x8 :: x9 :: x10 :: x11 :: y :: z :: l) (.long x :: S) μ r ν := by
  refine fx_step h ?_ k
  cases x11 <;> first | rfl | cases hp
theorem ii12 {x0 x1 x2 x3 x4 x5 x6 x7 x8 x9 x10 x11 : Value} {x y : Int32} {c : Int} {l : List Value} (h : pm_code m pc = some (.iinc 12 c, n)) (hy : Int32.ofInt c = y) (hp : pm_nl x11 = true) (k : pm_Fx X d m n (x0 :: x1 :: x2 :: x3 :: x4 :: x5 :: x6 :: x7 :: x8 :: x9 :: x10 :: x11 :: .int (x + y) :: l) S μ r ν) : pm_Fx X d m pc (x0 :: x1 :: x2 :: x3 :: x4 :: x5 :: x6 :: x7 :: x8 :: x9 :: x10 :: x11 :: .int x :: l) S μ r ν := by
  subst hy
  refine fx_step h ?_ k
  cases x11 <;> first | rfl | cases hp
theorem r_ic {c : Int} {x : Int32} (h : pm_code m pc = some (.iconst c, n)) (e : Int32.ofInt c = x) (k : pm_Fx X d m n L (.int x :: S) μ r ν) : pm_Fx X d m pc L S μ r ν := by subst e; exact fx_step h rfl k
theorem r_bi {c : Int} {x : Int32} (h : pm_code m pc = some (.bipush c, n)) (e : (Int8.ofInt c).toInt32 = x) (k : pm_Fx X d m n L (.int x :: S) μ r ν) : pm_Fx X d m pc L S μ r ν := by subst e; exact fx_step h rfl k
theorem r_si {c : Int} {x : Int32} (h : pm_code m pc = some (.sipush c, n)) (e : (Int16.ofInt c).toInt32 = x) (k : pm_Fx X d m n L (.int x :: S) μ r ν) : pm_Fx X d m pc L S μ r ν := by subst e; exact fx_step h rfl k
theorem r_lc {c : Fin 2} {x : Int64} (h : pm_code m pc = some (.lconst c, n)) (e : Int64.ofNat (c : Nat) = x) (k : pm_Fx X d m n L (.long x :: S) μ r ν) : pm_Fx X d m pc L S μ r ν := by subst e; exact fx_step h rfl k
theorem r_ki {x : Int32} (h : pm_kF m pc n (.int x)) (k : pm_Fx X d m n L (.int x :: S) μ r ν) : pm_Fx X d m pc L S μ r ν := by
  obtain ⟨ins, i, h1, h2, h3⟩ := h
  rcases h2 with rfl | rfl
  · exact fx_step h1 (by simp only [pm_step, pm_lc, h3]) k
  · exact fx_step h1 (by simp only [pm_step, pm_lc, h3]) k
theorem r_ks {x : Nat} (h : pm_kF m pc n (.retAddr x)) (k : pm_Fx X d m n L (.retAddr x :: S) μ r ν) : pm_Fx X d m pc L S μ r ν := by
  obtain ⟨ins, i, h1, h2, h3⟩ := h
  rcases h2 with rfl | rfl
  · exact fx_step h1 (by simp only [pm_step, pm_lc, h3]) k
  · exact fx_step h1 (by simp only [pm_step, pm_lc, h3]) k
theorem r_kl {x : Int64} (h : pm_kF2 m pc n (.long x)) (k : pm_Fx X d m n L (.long x :: S) μ r ν) : pm_Fx X d m pc L S μ r ν := by
  obtain ⟨i, h1, h3⟩ := h
  exact fx_step h1 (by simp only [pm_step, pm_lc2, h3]) k
theorem r_iadd {x y : Int32} (h : pm_code m pc = some (.iadd, n)) (k : pm_Fx X d m n L (.int (x + y) :: S) μ r ν) : pm_Fx X d m pc L (.int y :: .int x :: S) μ r ν := fx_step h rfl k
theorem r_isub {x y : Int32} (h : pm_code m pc = some (.isub, n)) (k : pm_Fx X d m n L (.int (x - y) :: S) μ r ν) : pm_Fx X d m pc L (.int y :: .int x :: S) μ r ν := fx_step h rfl k
theorem r_imul {x y : Int32} (h : pm_code m pc = some (.imul, n)) (k : pm_Fx X d m n L (.int (x * y) :: S) μ r ν) : pm_Fx X d m pc L (.int y :: .int x :: S) μ r ν := fx_step h rfl k
theorem r_iand {x y : Int32} (h : pm_code m pc = some (.iand, n)) (k : pm_Fx X d m n L (.int (x &&& y) :: S) μ r ν) : pm_Fx X d m pc L (.int y :: .int x :: S) μ r ν := fx_step h rfl k
theorem r_ior {x y : Int32} (h : pm_code m pc = some (.ior, n)) (k : pm_Fx X d m n L (.int (x ||| y) :: S) μ r ν) : pm_Fx X d m pc L (.int y :: .int x :: S) μ r ν := fx_step h rfl k
theorem r_ishl {x y : Int32} (h : pm_code m pc = some (.ishl, n)) (k : pm_Fx X d m n L (.int (x <<< (y &&& 31)) :: S) μ r ν) : pm_Fx X d m pc L (.int y :: .int x :: S) μ r ν := fx_step h rfl k
theorem r_ishr {x y : Int32} (h : pm_code m pc = some (.ishr, n)) (k : pm_Fx X d m n L (.int (x >>> (y &&& 31)) :: S) μ r ν) : pm_Fx X d m pc L (.int y :: .int x :: S) μ r ν := fx_step h rfl k
theorem r_iushr {x y : Int32} (h : pm_code m pc = some (.iushr, n)) (k : pm_Fx X d m n L (.int ((x.toUInt32 >>> (y.toUInt32 &&& Int32.toUInt32 31)).toInt32) :: S) μ r ν) : pm_Fx X d m pc L (.int y :: .int x :: S) μ r ν := fx_step h rfl k
theorem r_idiv {x y : Int32} (h : pm_code m pc = some (.idiv, n)) (hy : ¬ y = 0) (k : pm_Fx X d m n L (.int (x / y) :: S) μ r ν) : pm_Fx X d m pc L (.int y :: .int x :: S) μ r ν := fx_step h (by simp only [pm_step, pm_id, hy, if_false]) k
theorem r_irem {x y : Int32} (h : pm_code m pc = some (.irem, n)) (hy : ¬ y = 0) (k : pm_Fx X d m n L (.int (x - x / y * y) :: S) μ r ν) : pm_Fx X d m pc L (.int y :: .int x :: S) μ r ν := fx_step h (by simp only [pm_step, pm_id, hy, if_false]) k
theorem r_ladd {x y : Int64} (h : pm_code m pc = some (.ladd, n)) (k : pm_Fx X d m n L (.long (x + y) :: S) μ r ν) : pm_Fx X d m pc L (.long y :: .long x :: S) μ r ν := fx_step h rfl k
theorem r_lsub {x y : Int64} (h : pm_code m pc = some (.lsub, n)) (k : pm_Fx X d m n L (.long (x - y) :: S) μ r ν) : pm_Fx X d m pc L (.long y :: .long x :: S) μ r ν := fx_step h rfl k
theorem r_lmul {x y : Int64} (h : pm_code m pc = some (.lmul, n)) (k : pm_Fx X d m n L (.long (x * y) :: S) μ r ν) : pm_Fx X d m pc L (.long y :: .long x :: S) μ r ν := fx_step h rfl k
theorem r_land {x y : Int64} (h : pm_code m pc = some (.land, n)) (k : pm_Fx X d m n L (.long (x &&& y) :: S) μ r ν) : pm_Fx X d m pc L (.long y :: .long x :: S) μ r ν := fx_step h rfl k
theorem r_ldiv {x y : Int64} (h : pm_code m pc = some (.ldiv, n)) (hy : ¬ y = 0) (k : pm_Fx X d m n L (.long (x / y) :: S) μ r ν) : pm_Fx X d m pc L (.long y :: .long x :: S) μ r ν := fx_step h (by simp only [pm_step, pm_ldv, hy, if_false]) k
theorem r_lrem {x y : Int64} (h : pm_code m pc = some (.lrem, n)) (hy : ¬ y = 0) (k : pm_Fx X d m n L (.long (x - x / y * y) :: S) μ r ν) : pm_Fx X d m pc L (.long y :: .long x :: S) μ r ν := fx_step h (by simp only [pm_step, pm_ldv, hy, if_false]) k
theorem r_lshl {x : Int64} {y : Int32} (h : pm_code m pc = some (.lshl, n)) (k : pm_Fx X d m n L (.long (x <<< (y.toInt64 &&& 63)) :: S) μ r ν) : pm_Fx X d m pc L (.int y :: .long x :: S) μ r ν := fx_step h rfl k
theorem r_lshr {x : Int64} {y : Int32} (h : pm_code m pc = some (.lshr, n)) (k : pm_Fx X d m n L (.long (x >>> (y.toInt64 &&& 63)) :: S) μ r ν) : pm_Fx X d m pc L (.int y :: .long x :: S) μ r ν := fx_step h rfl k
theorem r_lcmp {x y : Int64} (h : pm_code m pc = some (.lcmp, n)) (k : pm_Fx X d m n L (.int (lg_cmp x y) :: S) μ r ν) : pm_Fx X d m pc L (.long y :: .long x :: S) μ r ν := fx_step h rfl k
theorem r_lneg {x : Int64} (h : pm_code m pc = some (.lneg, n)) (k : pm_Fx X d m n L (.long (-x) :: S) μ r ν) : pm_Fx X d m pc L (.long x :: S) μ r ν := fx_step h rfl k
theorem r_i2l {x : Int32} (h : pm_code m pc = some (.i2l, n)) (k : pm_Fx X d m n L (.long x.toInt64 :: S) μ r ν) : pm_Fx X d m pc L (.int x :: S) μ r ν := fx_step h rfl k
theorem r_l2i {x : Int64} (h : pm_code m pc = some (.l2i, n)) (k : pm_Fx X d m n L (.int x.toInt32 :: S) μ r ν) : pm_Fx X d m pc L (.long x :: S) μ r ν := fx_step h rfl k
theorem r_i2c {x : Int32} (h : pm_code m pc = some (.i2c, n)) (k : pm_Fx X d m n L (.int (x.toUInt32 % 65536).toInt32 :: S) μ r ν) : pm_Fx X d m pc L (.int x :: S) μ r ν := fx_step h rfl k
theorem r_dpi {x : Int32} (h : pm_code m pc = some (.dup, n)) (k : pm_Fx X d m n L (.int x :: .int x :: S) μ r ν) : pm_Fx X d m pc L (.int x :: S) μ r ν := fx_step h rfl k
theorem r_dpr {a : Nat} (h : pm_code m pc = some (.dup, n)) (k : pm_Fx X d m n L (.ref a :: .ref a :: S) μ r ν) : pm_Fx X d m pc L (.ref a :: S) μ r ν := fx_step h rfl k
theorem r_dp2 {x : Int32} {a : Nat} (h : pm_code m pc = some (.dup2, n)) (k : pm_Fx X d m n L (.int x :: .ref a :: .int x :: .ref a :: S) μ r ν) : pm_Fx X d m pc L (.int x :: .ref a :: S) μ r ν := fx_step h rfl k
theorem r_pp {x : Int32} (h : pm_code m pc = some (.pop, n)) (k : pm_Fx X d m n L S μ r ν) : pm_Fx X d m pc L (.int x :: S) μ r ν := fx_step h rfl k
theorem r_go {off : Int} (h : pm_code m pc = some (.goto off, n)) (ht : pm_tt pc off t = true) (k : pm_Fx X d m t L S μ r ν) : pm_Fx X d m pc L S μ r ν := by
  obtain ⟨h1, h2⟩ := pm_tt_sp ht
  exact fx_step h (by simp only [pm_step, h1, h2, if_true]) k
theorem r_if {c : ClassFile.Cond} {off : Int} {x : Int32} (h : pm_code m pc = some (.ifCond c off, n)) (ht : pm_tt pc off t = true) (k1 : pm_cd c x 0 = true → pm_Fx X d m t L S μ r ν) (k2 : pm_cd c x 0 = false → pm_Fx X d m n L S μ r ν) : pm_Fx X d m pc L (.int x :: S) μ r ν := by
  obtain ⟨h1, h2⟩ := pm_tt_sp ht
  cases hc : pm_cd c x 0 with
  | true => exact fx_step h (by simp only [pm_step, pm_b1, h1, h2, hc, if_true, cond_true]) (k1 hc)
  | false => exact fx_step h (by simp only [pm_step, pm_b1, h1, h2, hc, if_true, cond_false]) (k2 hc)
theorem r_ii {c : ClassFile.Cond} {off : Int} {x y : Int32} (h : pm_code m pc = some (.if_icmp c off, n)) (ht : pm_tt pc off t = true) (k1 : pm_cd c x y = true → pm_Fx X d m t L S μ r ν) (k2 : pm_cd c x y = false → pm_Fx X d m n L S μ r ν) : pm_Fx X d m pc L (.int y :: .int x :: S) μ r ν := by
  obtain ⟨h1, h2⟩ := pm_tt_sp ht
  cases hc : pm_cd c x y with
  | true => exact fx_step h (by simp only [pm_step, pm_b2, h1, h2, hc, if_true, cond_true]) (k1 hc)
  | false => exact fx_step h (by simp only [pm_step, pm_b2, h1, h2, hc, if_true, cond_false]) (k2 hc)
theorem r_ifeq {off : Int} {x : Int32} (h : pm_code m pc = some (.ifCond .eq off, n)) (ht : pm_tt pc off t = true) (k1 : x = 0 → pm_Fx X d m t L S μ r ν) (k2 : ¬ x = 0 → pm_Fx X d m n L S μ r ν) : pm_Fx X d m pc L (.int x :: S) μ r ν := r_if h ht (fun hc => k1 (of_decide_eq_true hc)) (fun hc => k2 (of_decide_eq_false hc))
theorem r_iceq {off : Int} {x y : Int32} (h : pm_code m pc = some (.if_icmp .eq off, n)) (ht : pm_tt pc off t = true) (k1 : x = y → pm_Fx X d m t L S μ r ν) (k2 : ¬ x = y → pm_Fx X d m n L S μ r ν) : pm_Fx X d m pc L (.int y :: .int x :: S) μ r ν := r_ii h ht (fun hc => k1 (of_decide_eq_true hc)) (fun hc => k2 (of_decide_eq_false hc))
theorem r_ifne {off : Int} {x : Int32} (h : pm_code m pc = some (.ifCond .ne off, n)) (ht : pm_tt pc off t = true) (k1 : ¬ x = 0 → pm_Fx X d m t L S μ r ν) (k2 : x = 0 → pm_Fx X d m n L S μ r ν) : pm_Fx X d m pc L (.int x :: S) μ r ν := r_if h ht (fun hc => k1 (of_decide_eq_true hc)) (fun hc => k2 (Decidable.not_not.mp (of_decide_eq_false hc)))
theorem r_icne {off : Int} {x y : Int32} (h : pm_code m pc = some (.if_icmp .ne off, n)) (ht : pm_tt pc off t = true) (k1 : ¬ x = y → pm_Fx X d m t L S μ r ν) (k2 : x = y → pm_Fx X d m n L S μ r ν) : pm_Fx X d m pc L (.int y :: .int x :: S) μ r ν := r_ii h ht (fun hc => k1 (of_decide_eq_true hc)) (fun hc => k2 (Decidable.not_not.mp (of_decide_eq_false hc)))
theorem r_iflt {off : Int} {x : Int32} (h : pm_code m pc = some (.ifCond .lt off, n)) (ht : pm_tt pc off t = true) (k1 : x.toInt < 0 → pm_Fx X d m t L S μ r ν) (k2 : 0 ≤ x.toInt → pm_Fx X d m n L S μ r ν) : pm_Fx X d m pc L (.int x :: S) μ r ν := r_if h ht (fun hc => k1 (Int32.lt_iff_toInt_lt.mp (of_decide_eq_true hc))) (fun hc => k2 (Int.not_lt.mp (fun g => of_decide_eq_false hc (Int32.lt_iff_toInt_lt.mpr g))))
theorem r_iclt {off : Int} {x y : Int32} (h : pm_code m pc = some (.if_icmp .lt off, n)) (ht : pm_tt pc off t = true) (k1 : x.toInt < y.toInt → pm_Fx X d m t L S μ r ν) (k2 : y.toInt ≤ x.toInt → pm_Fx X d m n L S μ r ν) : pm_Fx X d m pc L (.int y :: .int x :: S) μ r ν := r_ii h ht (fun hc => k1 (Int32.lt_iff_toInt_lt.mp (of_decide_eq_true hc))) (fun hc => k2 (Int.not_lt.mp (fun g => of_decide_eq_false hc (Int32.lt_iff_toInt_lt.mpr g))))
theorem r_ifge {off : Int} {x : Int32} (h : pm_code m pc = some (.ifCond .ge off, n)) (ht : pm_tt pc off t = true) (k1 : 0 ≤ x.toInt → pm_Fx X d m t L S μ r ν) (k2 : x.toInt < 0 → pm_Fx X d m n L S μ r ν) : pm_Fx X d m pc L (.int x :: S) μ r ν := r_if h ht (fun hc => k1 (Int32.le_iff_toInt_le.mp (of_decide_eq_true hc))) (fun hc => k2 (Int.not_le.mp (fun g => of_decide_eq_false hc (Int32.le_iff_toInt_le.mpr g))))
theorem r_icge {off : Int} {x y : Int32} (h : pm_code m pc = some (.if_icmp .ge off, n)) (ht : pm_tt pc off t = true) (k1 : y.toInt ≤ x.toInt → pm_Fx X d m t L S μ r ν) (k2 : x.toInt < y.toInt → pm_Fx X d m n L S μ r ν) : pm_Fx X d m pc L (.int y :: .int x :: S) μ r ν := r_ii h ht (fun hc => k1 (Int32.le_iff_toInt_le.mp (of_decide_eq_true hc))) (fun hc => k2 (Int.not_le.mp (fun g => of_decide_eq_false hc (Int32.le_iff_toInt_le.mpr g))))
theorem r_ifgt {off : Int} {x : Int32} (h : pm_code m pc = some (.ifCond .gt off, n)) (ht : pm_tt pc off t = true) (k1 : 0 < x.toInt → pm_Fx X d m t L S μ r ν) (k2 : x.toInt ≤ 0 → pm_Fx X d m n L S μ r ν) : pm_Fx X d m pc L (.int x :: S) μ r ν := r_if h ht (fun hc => k1 (Int32.lt_iff_toInt_lt.mp (of_decide_eq_true hc))) (fun hc => k2 (Int.not_lt.mp (fun g => of_decide_eq_false hc (Int32.lt_iff_toInt_lt.mpr g))))
theorem r_icgt {off : Int} {x y : Int32} (h : pm_code m pc = some (.if_icmp .gt off, n)) (ht : pm_tt pc off t = true) (k1 : y.toInt < x.toInt → pm_Fx X d m t L S μ r ν) (k2 : x.toInt ≤ y.toInt → pm_Fx X d m n L S μ r ν) : pm_Fx X d m pc L (.int y :: .int x :: S) μ r ν := r_ii h ht (fun hc => k1 (Int32.lt_iff_toInt_lt.mp (of_decide_eq_true hc))) (fun hc => k2 (Int.not_lt.mp (fun g => of_decide_eq_false hc (Int32.lt_iff_toInt_lt.mpr g))))
theorem r_ifle {off : Int} {x : Int32} (h : pm_code m pc = some (.ifCond .le off, n)) (ht : pm_tt pc off t = true) (k1 : x.toInt ≤ 0 → pm_Fx X d m t L S μ r ν) (k2 : 0 < x.toInt → pm_Fx X d m n L S μ r ν) : pm_Fx X d m pc L (.int x :: S) μ r ν := r_if h ht (fun hc => k1 (Int32.le_iff_toInt_le.mp (of_decide_eq_true hc))) (fun hc => k2 (Int.not_le.mp (fun g => of_decide_eq_false hc (Int32.le_iff_toInt_le.mpr g))))
theorem r_icle {off : Int} {x y : Int32} (h : pm_code m pc = some (.if_icmp .le off, n)) (ht : pm_tt pc off t = true) (k1 : x.toInt ≤ y.toInt → pm_Fx X d m t L S μ r ν) (k2 : y.toInt < x.toInt → pm_Fx X d m n L S μ r ν) : pm_Fx X d m pc L (.int y :: .int x :: S) μ r ν := r_ii h ht (fun hc => k1 (Int32.le_iff_toInt_le.mp (of_decide_eq_true hc))) (fun hc => k2 (Int.not_le.mp (fun g => of_decide_eq_false hc (Int32.le_iff_toInt_le.mpr g))))
theorem r_ts {dd lo hi o : Int} {offs : Array Int} {x : Int32} (h : pm_code m pc = some (.tableswitch dd lo hi offs, n)) (ho : pm_tsw dd lo hi offs x = some o) (ht : pm_tt pc o t = true) (k : pm_Fx X d m t L S μ r ν) : pm_Fx X d m pc L (.int x :: S) μ r ν := by
  obtain ⟨h1, h2⟩ := pm_tt_sp ht
  exact fx_step h (by simp only [pm_step, pm_sw, ho, h1, h2, if_true]) k
theorem r_lk {dd o : Int} {ps : Array (Int × Int)} {x : Int32} (h : pm_code m pc = some (.lookupswitch dd ps, n)) (hs : (ps.toList.zip (ps.toList.drop 1)).all (fun (a, next) => a.1 < next.1) = true) (ho : Op.lookupswitch.offset ps.toList dd x.toInt = o) (ht : pm_tt pc o t = true) (k : pm_Fx X d m t L S μ r ν) : pm_Fx X d m pc L (.int x :: S) μ r ν := by
  obtain ⟨h1, h2⟩ := pm_tt_sp ht
  subst ho
  exact fx_step h (by simp only [pm_step, hs, pm_sw, h1, h2, if_true]) k
theorem r_gi {ci f nf a : Nat} (h : pm_gF m pc n ci f 0) (hT : T[a]? = some (ci, nf)) (hf : (Nat.blt ci 13 && Nat.blt f nf) = true) (k : pm_Fx X d m n L (.int (I a f) :: S) (I, J, P, T, e) r ν) : pm_Fx X d m pc L (.ref a :: S) (I, J, P, T, e) r ν := by
  obtain ⟨i, h1, h2⟩ := h
  simp only [Bool.and_eq_true] at hf
  have f1 : ci < 13 := Nat.le_of_ble_eq_true hf.1
  have f2 : f < nf := Nat.le_of_ble_eq_true hf.2
  exact fx_step h1 (by simp [pm_step, pm_gf, h2, hT, f1, f2]) k
theorem r_gr {ci f nf a b : Nat} (h : pm_gF m pc n ci f 2) (hT : T[a]? = some (ci, nf)) (hf : (Nat.blt ci 13 && Nat.blt f nf) = true) (hP : P a f = .ref b) (k : pm_Fx X d m n L (.ref b :: S) (I, J, P, T, e) r ν) : pm_Fx X d m pc L (.ref a :: S) (I, J, P, T, e) r ν := by
  obtain ⟨i, h1, h2⟩ := h
  simp only [Bool.and_eq_true] at hf
  have f1 : ci < 13 := Nat.le_of_ble_eq_true hf.1
  have f2 : f < nf := Nat.le_of_ble_eq_true hf.2
  exact fx_step h1 (by simp [pm_step, pm_gf, h2, hT, f1, f2, hP]) k
theorem r_pi {ci f nf a : Nat} {x : Int32} (h : pm_pF m pc n ci f 0) (hT : T[a]? = some (ci, nf)) (hf : Nat.blt f nf = true) (k : pm_Fx X d m n L S (va_up I a (upd (I a) f x), J, P, T, e) r ν) : pm_Fx X d m pc L (.int x :: .ref a :: S) (I, J, P, T, e) r ν := by
  obtain ⟨i, h1, h2, f1, h3⟩ := h
  have f2 : f < nf := Nat.le_of_ble_eq_true hf
  exact fx_step h1 (by simp [pm_step, pm_pf, h2, hT, f1, f2, h3]) k
theorem r_pr {ci f nf a b : Nat} (h : pm_pF m pc n ci f 2) (hT : T[a]? = some (ci, nf)) (hf : Nat.blt f nf = true) (k : pm_Fx X d m n L S (I, J, va_up P a (va_up (P a) f (.ref b)), T, e) r ν) : pm_Fx X d m pc L (.ref b :: .ref a :: S) (I, J, P, T, e) r ν := by
  obtain ⟨i, h1, h2, f1, h3⟩ := h
  have f2 : f < nf := Nat.le_of_ble_eq_true hf
  exact fx_step h1 (by simp [pm_step, pm_pf, h2, hT, f1, f2, h3]) k
theorem r_ia {a len : Nat} {j : Int32} (h : pm_code m pc = some (.iaload, n)) (hT : T[a]? = some (20, len)) (h0 : 0 ≤ j.toInt) (h1 : j.toInt < len) (k : pm_Fx X d m n L (.int (I a j.toNatClampNeg) :: S) (I, J, P, T, e) r ν) : pm_Fx X d m pc L (.int j :: .ref a :: S) (I, J, P, T, e) r ν :=
  fx_step h (by simp [pm_step, pm_ia, hT, h0, h1]) k
theorem r_iz {j : Int32} (h : pm_code m pc = some (.iaload, n)) (h0 : 0 ≤ j.toInt) (h1 : j.toInt < X.2) (k : pm_Fx X d m n L (.int (X.1 j.toNatClampNeg) :: S) μ r ν) : pm_Fx X d m pc L (.int j :: .retAddr 0 :: S) μ r ν :=
  fx_step h (by simp [pm_step, pm_ia, h0, h1]) k
theorem r_ba {a len : Nat} {j : Int32} (h : pm_code m pc = some (.baload, n)) (hT : T[a]? = some (22, len)) (h0 : 0 ≤ j.toInt) (h1 : j.toInt < len) (k : pm_Fx X d m n L (.int (I a j.toNatClampNeg) :: S) (I, J, P, T, e) r ν) : pm_Fx X d m pc L (.int j :: .ref a :: S) (I, J, P, T, e) r ν :=
  fx_step h (by simp [pm_step, pm_ba, hT, h0, h1]) k
theorem r_la {a len : Nat} {j : Int32} (h : pm_code m pc = some (.laload, n)) (hT : T[a]? = some (21, len)) (h0 : 0 ≤ j.toInt) (h1 : j.toInt < len) (k : pm_Fx X d m n L (.long (J a j.toNatClampNeg) :: S) (I, J, P, T, e) r ν) : pm_Fx X d m pc L (.int j :: .ref a :: S) (I, J, P, T, e) r ν :=
  fx_step h (by simp [pm_step, pm_la, hT, h0, h1]) k
theorem r_aa {a b len : Nat} {j : Int32} (h : pm_code m pc = some (.aaload, n)) (hT : T[a]? = some (23, len)) (h0 : 0 ≤ j.toInt) (h1 : j.toInt < len) (hP : P a j.toNatClampNeg = .ref b) (k : pm_Fx X d m n L (.ref b :: S) (I, J, P, T, e) r ν) : pm_Fx X d m pc L (.int j :: .ref a :: S) (I, J, P, T, e) r ν :=
  fx_step h (by simp [pm_step, pm_aa, hT, h0, h1, hP]) k
theorem r_ist {a len : Nat} {j x : Int32} (h : pm_code m pc = some (.iastore, n)) (hT : T[a]? = some (20, len)) (h0 : 0 ≤ j.toInt) (h1 : j.toInt < len) (k : pm_Fx X d m n L S (va_up I a (upd (I a) j.toNatClampNeg x), J, P, T, e) r ν) : pm_Fx X d m pc L (.int x :: .int j :: .ref a :: S) (I, J, P, T, e) r ν :=
  fx_step h (by simp [pm_step, pm_ias, hT, h0, h1]) k
theorem r_bst {a len : Nat} {j x : Int32} (h : pm_code m pc = some (.bastore, n)) (hT : T[a]? = some (22, len)) (h0 : 0 ≤ j.toInt) (h1 : j.toInt < len) (k : pm_Fx X d m n L S (va_up I a (upd (I a) j.toNatClampNeg (vp_nar .boolean x)), J, P, T, e) r ν) : pm_Fx X d m pc L (.int x :: .int j :: .ref a :: S) (I, J, P, T, e) r ν :=
  fx_step h (by simp [pm_step, pm_ias, hT, h0, h1]) k
theorem r_lst {a len : Nat} {j : Int32} {x : Int64} (h : pm_code m pc = some (.lastore, n)) (hT : T[a]? = some (21, len)) (h0 : 0 ≤ j.toInt) (h1 : j.toInt < len) (k : pm_Fx X d m n L S (I, va_up J a (vp_updL (J a) j.toNatClampNeg x), P, T, e) r ν) : pm_Fx X d m pc L (.long x :: .int j :: .ref a :: S) (I, J, P, T, e) r ν :=
  fx_step h (by simp [pm_step, pm_las, hT, h0, h1]) k
theorem r_len {a c len : Nat} (h : pm_code m pc = some (.arraylength, n)) (hT : T[a]? = some (c, len)) (hc : (Nat.ble 20 c && Nat.ble c 23) = true) (k : pm_Fx X d m n L (.int (nI len) :: S) (I, J, P, T, e) r ν) : pm_Fx X d m pc L (.ref a :: S) (I, J, P, T, e) r ν := by
  simp only [Bool.and_eq_true] at hc
  have f1 : 20 ≤ c := Nat.le_of_ble_eq_true hc.1
  have f2 : c ≤ 23 := Nat.le_of_ble_eq_true hc.2
  exact fx_step h (by simp [pm_step, pm_al, hT, f1, f2]) k
theorem r_lez (h : pm_code m pc = some (.arraylength, n)) (k : pm_Fx X d m n L (.int (nI X.2) :: S) μ r ν) : pm_Fx X d m pc L (.retAddr 0 :: S) μ r ν := fx_step h rfl k
theorem r_cpy {i : Nat} {a b la lb : Nat} {len sp dp : Int32} (h : pm_code m pc = some (.invokestatic i, n)) (hk : pm_k m = 11) (hi : i = 390) (ha : T[a]? = some (20, la)) (hb : T[b]? = some (20, lb)) (hS : Nat.ble S.length 20 = true) (h0 : 0 ≤ sp.toInt) (h1 : 0 ≤ dp.toInt) (h2 : 0 ≤ len.toInt) (h3 : sp.toNatClampNeg + len.toNatClampNeg ≤ la) (h4 : dp.toNatClampNeg + len.toNatClampNeg ≤ lb)
    (k : pm_Fx X d m n L S (va_up I b (va_cpy (I a) (I b) sp.toNatClampNeg dp.toNatClampNeg len.toNatClampNeg), J, P, T, e) r ν) : pm_Fx X d m pc L (.int len :: .int dp :: .ref b :: .int sp :: .ref a :: S) (I, J, P, T, e) r ν := by
  subst hi
  have hS' : S.length ≤ 20 := Nat.le_of_ble_eq_true hS
  exact fx_step h (by simp [pm_step, pm_iv, hk, ha, hb, hS', h0, h1, h2, h3, h4]) k
theorem r_ri {x y : Int32} (h : pm_code m pc = some (.ireturn, n)) (ht : pm_rt m = some .int) (hx : x = y) (hμ : μ = ν) : pm_Fx X d m pc L [.int x] μ (.inl (some (.int y))) ν := by
  subst hx; subst hμ
  exact fun Q hQ F hF => hF.2.2.1 d m pc n L _ μ Q _ h rfl (by simp [pm_rv, ht]) hQ
theorem r_rz {x y : Int32} (h : pm_code m pc = some (.ireturn, n)) (ht : pm_rt m = some .boolean) (h01 : x = 0 ∨ x = 1) (hx : x = y) (hμ : μ = ν) : pm_Fx X d m pc L [.int x] μ (.inl (some (.int y))) ν := by
  subst hx; subst hμ
  exact fun Q hQ F hF => hF.2.2.1 d m pc n L _ μ Q _ h rfl (by simp [pm_rv, ht, h01]) hQ
theorem r_rch {x y : Int32} (h : pm_code m pc = some (.ireturn, n)) (ht : pm_rt m = some .char) (h0 : 0 ≤ x.toInt) (h1 : x.toInt ≤ 65535) (hx : x = y) (hμ : μ = ν) : pm_Fx X d m pc L [.int x] μ (.inl (some (.int y))) ν := by
  subst hx; subst hμ
  exact fun Q hQ F hF => hF.2.2.1 d m pc n L _ μ Q _ h rfl (by simp [pm_rv, ht, h0, h1]) hQ
theorem r_rb {x y : Int32} (h : pm_code m pc = some (.ireturn, n)) (ht : pm_rt m = some .byte) (h0 : x = 0) (hx : x = y) (hμ : μ = ν) : pm_Fx X d m pc L [.int x] μ (.inl (some (.int y))) ν := by
  subst hx; subst hμ
  exact fun Q hQ F hF => hF.2.2.1 d m pc n L _ μ Q _ h rfl (by simp [pm_rv, ht, h0]) hQ
theorem r_rl {x y : Int64} (h : pm_code m pc = some (.lreturn, n)) (ht : pm_rt m = some .long) (hx : x = y) (hμ : μ = ν) : pm_Fx X d m pc L [.long x] μ (.inl (some (.long y))) ν := by
  subst hx; subst hμ
  exact fun Q hQ F hF => hF.2.2.1 d m pc n L _ μ Q _ h rfl (by simp [pm_rv, ht]) hQ
theorem r_rr {x y : Nat} {c : String} (h : pm_code m pc = some (.areturn, n)) (ht : pm_rt m = some (.object c)) (hx : x = y) (hμ : μ = ν) : pm_Fx X d m pc L [.ref x] μ (.inl (some (.ref y))) ν := by
  subst hx; subst hμ
  exact fun Q hQ F hF => hF.2.2.1 d m pc n L _ μ Q _ h rfl (by simp [pm_rv, ht]) hQ
theorem r_rv (h : pm_code m pc = some (.return_, n)) (ht : pm_rt m = none) (hμ : μ = ν) : pm_Fx X d m pc L [] μ (.inl none) ν := by
  subst hμ
  exact fun Q hQ F hF => hF.2.2.2.1 d m pc n L μ Q h ht hQ
theorem r_th {ik is ic t : Nat} (h : pm_tw m pc = some (t, ik, is, ic)) (he : e < 100000) (hμ : (I, J, P, T, e + 1) = ν) : pm_Fx X d m pc L [] (I, J, P, T, e) (.inr t) ν := by
  subst hμ
  exact fun Q hQ F hF => hF.2.2.2.2.1 d m pc t ik is ic L I J P T e Q h he hQ
theorem fx_call {m' kd j : Nat} {as S' : List Value} {v : Option Value} {μ1 : pm_M} (q : pm_cF m pc n m' kd j) (hj : as.length = j) (hS' : Nat.ble S'.length 20 = true) (hS : S = as.reverse ++ S') (f : pm_Fn X d m' kd as μ (.inl v) μ1) (k : pm_Fx X (d + 1) m n L (v.toList ++ S') μ1 r ν) : pm_Fx X (d + 1) m pc L S μ r ν := by
  obtain ⟨ins, i, na, nest, q1, q2, q3, q4⟩ := q
  obtain ⟨f1, f2, f3, f4⟩ := f
  intro Q hQ F hF
  refine hF.2.1 d m pc L S μ Q (fun r1 ρ => r1 = .inl v ∧ ρ = μ1) ins n i kd m' na nest as S' q1 q2 q3 hS (hj.trans q4) f1 (Nat.le_of_ble_eq_true hS') f2 f3 (f4 _ ⟨rfl, rfl⟩ F hF) ?_ ?_
  · intro v1 ρ hv
    cases hv.1
    cases hv.2
    exact k Q hQ F hF
  · intro t ρ hv
    cases hv.1
theorem fx_callt {m' kd j t : Nat} {as S' : List Value} {μ1 : pm_M} (q : pm_cF m pc n m' kd j) (hj : as.length = j) (hS' : Nat.ble S'.length 20 = true) (hS : S = as.reverse ++ S') (hh : pm_hh m = []) (f : pm_Fn X d m' kd as μ (.inr t) μ1) : pm_Fx X (d + 1) m pc L S μ (.inr t) μ1 := by
  obtain ⟨ins, i, na, nest, q1, q2, q3, q4⟩ := q
  obtain ⟨f1, f2, f3, f4⟩ := f
  intro Q hQ F hF
  refine hF.2.1 d m pc L S μ Q (fun r1 ρ => r1 = .inr t ∧ ρ = μ1) ins n i kd m' na nest as S' q1 q2 q3 hS (hj.trans q4) f1 (Nat.le_of_ble_eq_true hS') f2 f3 (f4 _ ⟨rfl, rfl⟩ F hF) ?_ ?_
  · intro v1 ρ hv
    cases hv.1
  · intro t1 ρ hv
    cases hv.1
    cases hv.2
    exact Or.inl ⟨by rw [hh]; rfl, hQ⟩
/-- a call that throws, caught: the handler's first instruction stores the exception -/
theorem fx_catch {m' kd j t h9 i9 n9 : Nat} {ins9 : Instr} {as S' : List Value} {μ1 : pm_M} (q : pm_cF m pc n m' kd j) (hj : as.length = j) (hS' : Nat.ble S'.length 20 = true) (hS : S = as.reverse ++ S') (ht : t ≠ 0) (hk : pm_k m = 13) (hf : pm_find (pm_hh m) pc t = some h9) (h1 : pm_code m h9 = some (ins9, n9)) (h2 : pm_asn ins9 = some i9) (h3 : i9 < L.length) (f : pm_Fn X d m' kd as μ (.inr t) μ1) (k : pm_Fx X (d + 1) m n9 (pm_st L i9 pm_jk) [] μ1 r ν) : pm_Fx X (d + 1) m pc L S μ r ν := by
  obtain ⟨ins, i, na, nest, q1, q2, q3, q4⟩ := q
  obtain ⟨f1, f2, f3, f4⟩ := f
  intro Q hQ F hF
  refine hF.2.1 d m pc L S μ Q (fun r1 ρ => r1 = .inr t ∧ ρ = μ1) ins n i kd m' na nest as S' q1 q2 q3 hS (hj.trans q4) f1 (Nat.le_of_ble_eq_true hS') f2 f3 (f4 _ ⟨rfl, rfl⟩ F hF) ?_ ?_
  · intro v1 ρ hv
    cases hv.1
  · intro t1 ρ hv
    cases hv.1
    cases hv.2
    exact Or.inr ⟨h9, i9, n9, ins9, ht, hk, hf, h1, h2, h3, k Q hQ F hF⟩
theorem cv0 {m' kd : Nat} {v : Value} {μ1 : pm_M} (q : pm_cF m pc n m' kd 0) (f : pm_Fn X d m' kd [] μ (.inl (some v)) μ1) (hS : Nat.ble S.length 20 = true) (k : pm_Fx X (d + 1) m n L (v :: S) μ1 r ν) : pm_Fx X (d + 1) m pc L (S) μ r ν := fx_call q rfl hS rfl f k
theorem cz0 {m' kd : Nat} {μ1 : pm_M} (q : pm_cF m pc n m' kd 0) (f : pm_Fn X d m' kd [] μ (.inl none) μ1) (hS : Nat.ble S.length 20 = true) (k : pm_Fx X (d + 1) m n L S μ1 r ν) : pm_Fx X (d + 1) m pc L (S) μ r ν := fx_call q rfl hS rfl f k
theorem cx0 {m' kd t : Nat} {μ1 : pm_M} (q : pm_cF m pc n m' kd 0) (hh : pm_hh m = []) (f : pm_Fn X d m' kd [] μ (.inr t) μ1) (hS : Nat.ble S.length 20 = true) : pm_Fx X (d + 1) m pc L (S) μ (.inr t) μ1 := fx_callt q rfl hS rfl hh f
theorem cv1 {m' kd : Nat} {a0 : Value} {v : Value} {μ1 : pm_M} (q : pm_cF m pc n m' kd 1) (f : pm_Fn X d m' kd [a0] μ (.inl (some v)) μ1) (hS : Nat.ble S.length 20 = true) (k : pm_Fx X (d + 1) m n L (v :: S) μ1 r ν) : pm_Fx X (d + 1) m pc L (a0 :: S) μ r ν := fx_call q rfl hS rfl f k
theorem cz1 {m' kd : Nat} {a0 : Value} {μ1 : pm_M} (q : pm_cF m pc n m' kd 1) (f : pm_Fn X d m' kd [a0] μ (.inl none) μ1) (hS : Nat.ble S.length 20 = true) (k : pm_Fx X (d + 1) m n L S μ1 r ν) : pm_Fx X (d + 1) m pc L (a0 :: S) μ r ν := fx_call q rfl hS rfl f k
theorem cx1 {m' kd t : Nat} {a0 : Value} {μ1 : pm_M} (q : pm_cF m pc n m' kd 1) (hh : pm_hh m = []) (f : pm_Fn X d m' kd [a0] μ (.inr t) μ1) (hS : Nat.ble S.length 20 = true) : pm_Fx X (d + 1) m pc L (a0 :: S) μ (.inr t) μ1 := fx_callt q rfl hS rfl hh f
theorem cv2 {m' kd : Nat} {a0 a1 : Value} {v : Value} {μ1 : pm_M} (q : pm_cF m pc n m' kd 2) (f : pm_Fn X d m' kd [a0, a1] μ (.inl (some v)) μ1) (hS : Nat.ble S.length 20 = true) (k : pm_Fx X (d + 1) m n L (v :: S) μ1 r ν) : pm_Fx X (d + 1) m pc L (a1 :: a0 :: S) μ r ν := fx_call q rfl hS rfl f k
theorem cz2 {m' kd : Nat} {a0 a1 : Value} {μ1 : pm_M} (q : pm_cF m pc n m' kd 2) (f : pm_Fn X d m' kd [a0, a1] μ (.inl none) μ1) (hS : Nat.ble S.length 20 = true) (k : pm_Fx X (d + 1) m n L S μ1 r ν) : pm_Fx X (d + 1) m pc L (a1 :: a0 :: S) μ r ν := fx_call q rfl hS rfl f k
theorem cx2 {m' kd t : Nat} {a0 a1 : Value} {μ1 : pm_M} (q : pm_cF m pc n m' kd 2) (hh : pm_hh m = []) (f : pm_Fn X d m' kd [a0, a1] μ (.inr t) μ1) (hS : Nat.ble S.length 20 = true) : pm_Fx X (d + 1) m pc L (a1 :: a0 :: S) μ (.inr t) μ1 := fx_callt q rfl hS rfl hh f
theorem cv3 {m' kd : Nat} {a0 a1 a2 : Value} {v : Value} {μ1 : pm_M} (q : pm_cF m pc n m' kd 3) (f : pm_Fn X d m' kd [a0, a1, a2] μ (.inl (some v)) μ1) (hS : Nat.ble S.length 20 = true) (k : pm_Fx X (d + 1) m n L (v :: S) μ1 r ν) : pm_Fx X (d + 1) m pc L (a2 :: a1 :: a0 :: S) μ r ν := fx_call q rfl hS rfl f k
theorem cz3 {m' kd : Nat} {a0 a1 a2 : Value} {μ1 : pm_M} (q : pm_cF m pc n m' kd 3) (f : pm_Fn X d m' kd [a0, a1, a2] μ (.inl none) μ1) (hS : Nat.ble S.length 20 = true) (k : pm_Fx X (d + 1) m n L S μ1 r ν) : pm_Fx X (d + 1) m pc L (a2 :: a1 :: a0 :: S) μ r ν := fx_call q rfl hS rfl f k
theorem cx3 {m' kd t : Nat} {a0 a1 a2 : Value} {μ1 : pm_M} (q : pm_cF m pc n m' kd 3) (hh : pm_hh m = []) (f : pm_Fn X d m' kd [a0, a1, a2] μ (.inr t) μ1) (hS : Nat.ble S.length 20 = true) : pm_Fx X (d + 1) m pc L (a2 :: a1 :: a0 :: S) μ (.inr t) μ1 := fx_callt q rfl hS rfl hh f
theorem cv4 {m' kd : Nat} {a0 a1 a2 a3 : Value} {v : Value} {μ1 : pm_M} (q : pm_cF m pc n m' kd 4) (f : pm_Fn X d m' kd [a0, a1, a2, a3] μ (.inl (some v)) μ1) (hS : Nat.ble S.length 20 = true) (k : pm_Fx X (d + 1) m n L (v :: S) μ1 r ν) : pm_Fx X (d + 1) m pc L (a3 :: a2 :: a1 :: a0 :: S) μ r ν := fx_call q rfl hS rfl f k
theorem cz4 {m' kd : Nat} {a0 a1 a2 a3 : Value} {μ1 : pm_M} (q : pm_cF m pc n m' kd 4) (f : pm_Fn X d m' kd [a0, a1, a2, a3] μ (.inl none) μ1) (hS : Nat.ble S.length 20 = true) (k : pm_Fx X (d + 1) m n L S μ1 r ν) : pm_Fx X (d + 1) m pc L (a3 :: a2 :: a1 :: a0 :: S) μ r ν := fx_call q rfl hS rfl f k
theorem cx4 {m' kd t : Nat} {a0 a1 a2 a3 : Value} {μ1 : pm_M} (q : pm_cF m pc n m' kd 4) (hh : pm_hh m = []) (f : pm_Fn X d m' kd [a0, a1, a2, a3] μ (.inr t) μ1) (hS : Nat.ble S.length 20 = true) : pm_Fx X (d + 1) m pc L (a3 :: a2 :: a1 :: a0 :: S) μ (.inr t) μ1 := fx_callt q rfl hS rfl hh f
theorem cv5 {m' kd : Nat} {a0 a1 a2 a3 a4 : Value} {v : Value} {μ1 : pm_M} (q : pm_cF m pc n m' kd 5) (f : pm_Fn X d m' kd [a0, a1, a2, a3, a4] μ (.inl (some v)) μ1) (hS : Nat.ble S.length 20 = true) (k : pm_Fx X (d + 1) m n L (v :: S) μ1 r ν) : pm_Fx X (d + 1) m pc L (a4 :: a3 :: a2 :: a1 :: a0 :: S) μ r ν := fx_call q rfl hS rfl f k
theorem cz5 {m' kd : Nat} {a0 a1 a2 a3 a4 : Value} {μ1 : pm_M} (q : pm_cF m pc n m' kd 5) (f : pm_Fn X d m' kd [a0, a1, a2, a3, a4] μ (.inl none) μ1) (hS : Nat.ble S.length 20 = true) (k : pm_Fx X (d + 1) m n L S μ1 r ν) : pm_Fx X (d + 1) m pc L (a4 :: a3 :: a2 :: a1 :: a0 :: S) μ r ν := fx_call q rfl hS rfl f k
theorem cx5 {m' kd t : Nat} {a0 a1 a2 a3 a4 : Value} {μ1 : pm_M} (q : pm_cF m pc n m' kd 5) (hh : pm_hh m = []) (f : pm_Fn X d m' kd [a0, a1, a2, a3, a4] μ (.inr t) μ1) (hS : Nat.ble S.length 20 = true) : pm_Fx X (d + 1) m pc L (a4 :: a3 :: a2 :: a1 :: a0 :: S) μ (.inr t) μ1 := fx_callt q rfl hS rfl hh f
theorem cv6 {m' kd : Nat} {a0 a1 a2 a3 a4 a5 : Value} {v : Value} {μ1 : pm_M} (q : pm_cF m pc n m' kd 6) (f : pm_Fn X d m' kd [a0, a1, a2, a3, a4, a5] μ (.inl (some v)) μ1) (hS : Nat.ble S.length 20 = true) (k : pm_Fx X (d + 1) m n L (v :: S) μ1 r ν) : pm_Fx X (d + 1) m pc L (a5 :: a4 :: a3 :: a2 :: a1 :: a0 :: S) μ r ν := fx_call q rfl hS rfl f k
theorem cz6 {m' kd : Nat} {a0 a1 a2 a3 a4 a5 : Value} {μ1 : pm_M} (q : pm_cF m pc n m' kd 6) (f : pm_Fn X d m' kd [a0, a1, a2, a3, a4, a5] μ (.inl none) μ1) (hS : Nat.ble S.length 20 = true) (k : pm_Fx X (d + 1) m n L S μ1 r ν) : pm_Fx X (d + 1) m pc L (a5 :: a4 :: a3 :: a2 :: a1 :: a0 :: S) μ r ν := fx_call q rfl hS rfl f k
theorem cx6 {m' kd t : Nat} {a0 a1 a2 a3 a4 a5 : Value} {μ1 : pm_M} (q : pm_cF m pc n m' kd 6) (hh : pm_hh m = []) (f : pm_Fn X d m' kd [a0, a1, a2, a3, a4, a5] μ (.inr t) μ1) (hS : Nat.ble S.length 20 = true) : pm_Fx X (d + 1) m pc L (a5 :: a4 :: a3 :: a2 :: a1 :: a0 :: S) μ (.inr t) μ1 := fx_callt q rfl hS rfl hh f
theorem cv7 {m' kd : Nat} {a0 a1 a2 a3 a4 a5 a6 : Value} {v : Value} {μ1 : pm_M} (q : pm_cF m pc n m' kd 7) (f : pm_Fn X d m' kd [a0, a1, a2, a3, a4, a5, a6] μ (.inl (some v)) μ1) (hS : Nat.ble S.length 20 = true) (k : pm_Fx X (d + 1) m n L (v :: S) μ1 r ν) : pm_Fx X (d + 1) m pc L (a6 :: a5 :: a4 :: a3 :: a2 :: a1 :: a0 :: S) μ r ν := fx_call q rfl hS rfl f k
theorem cz7 {m' kd : Nat} {a0 a1 a2 a3 a4 a5 a6 : Value} {μ1 : pm_M} (q : pm_cF m pc n m' kd 7) (f : pm_Fn X d m' kd [a0, a1, a2, a3, a4, a5, a6] μ (.inl none) μ1) (hS : Nat.ble S.length 20 = true) (k : pm_Fx X (d + 1) m n L S μ1 r ν) : pm_Fx X (d + 1) m pc L (a6 :: a5 :: a4 :: a3 :: a2 :: a1 :: a0 :: S) μ r ν := fx_call q rfl hS rfl f k
theorem cx7 {m' kd t : Nat} {a0 a1 a2 a3 a4 a5 a6 : Value} {μ1 : pm_M} (q : pm_cF m pc n m' kd 7) (hh : pm_hh m = []) (f : pm_Fn X d m' kd [a0, a1, a2, a3, a4, a5, a6] μ (.inr t) μ1) (hS : Nat.ble S.length 20 = true) : pm_Fx X (d + 1) m pc L (a6 :: a5 :: a4 :: a3 :: a2 :: a1 :: a0 :: S) μ (.inr t) μ1 := fx_callt q rfl hS rfl hh f
theorem cv8 {m' kd : Nat} {a0 a1 a2 a3 a4 a5 a6 a7 : Value} {v : Value} {μ1 : pm_M} (q : pm_cF m pc n m' kd 8) (f : pm_Fn X d m' kd [a0, a1, a2, a3, a4, a5, a6, a7] μ (.inl (some v)) μ1) (hS : Nat.ble S.length 20 = true) (k : pm_Fx X (d + 1) m n L (v :: S) μ1 r ν) : pm_Fx X (d + 1) m pc L (a7 :: a6 :: a5 :: a4 :: a3 :: a2 :: a1 :: a0 :: S) μ r ν := fx_call q rfl hS rfl f k
theorem cz8 {m' kd : Nat} {a0 a1 a2 a3 a4 a5 a6 a7 : Value} {μ1 : pm_M} (q : pm_cF m pc n m' kd 8) (f : pm_Fn X d m' kd [a0, a1, a2, a3, a4, a5, a6, a7] μ (.inl none) μ1) (hS : Nat.ble S.length 20 = true) (k : pm_Fx X (d + 1) m n L S μ1 r ν) : pm_Fx X (d + 1) m pc L (a7 :: a6 :: a5 :: a4 :: a3 :: a2 :: a1 :: a0 :: S) μ r ν := fx_call q rfl hS rfl f k
theorem cx8 {m' kd t : Nat} {a0 a1 a2 a3 a4 a5 a6 a7 : Value} {μ1 : pm_M} (q : pm_cF m pc n m' kd 8) (hh : pm_hh m = []) (f : pm_Fn X d m' kd [a0, a1, a2, a3, a4, a5, a6, a7] μ (.inr t) μ1) (hS : Nat.ble S.length 20 = true) : pm_Fx X (d + 1) m pc L (a7 :: a6 :: a5 :: a4 :: a3 :: a2 :: a1 :: a0 :: S) μ (.inr t) μ1 := fx_callt q rfl hS rfl hh f
end Rows
theorem kIm8 : Int32.ofInt (-8) = (-8) := by decide
theorem kIm1 : Int32.ofInt (-1) = (-1) := by decide
theorem kI0 : Int32.ofInt 0 = 0 := by decide
theorem kI1 : Int32.ofInt 1 = 1 := by decide
theorem kI2 : Int32.ofInt 2 = 2 := by decide
theorem kI3 : Int32.ofInt 3 = 3 := by decide
theorem kI4 : Int32.ofInt 4 = 4 := by decide
theorem kI5 : Int32.ofInt 5 = 5 := by decide
theorem kI7 : Int32.ofInt 7 = 7 := by decide
theorem kBm20 : (Int8.ofInt (-20)).toInt32 = (-20) := by decide
theorem kB6 : (Int8.ofInt 6).toInt32 = 6 := by decide
theorem kB7 : (Int8.ofInt 7).toInt32 = 7 := by decide
theorem kB8 : (Int8.ofInt 8).toInt32 = 8 := by decide
theorem kB9 : (Int8.ofInt 9).toInt32 = 9 := by decide
theorem kB10 : (Int8.ofInt 10).toInt32 = 10 := by decide
theorem kB11 : (Int8.ofInt 11).toInt32 = 11 := by decide
theorem kB12 : (Int8.ofInt 12).toInt32 = 12 := by decide
theorem kB13 : (Int8.ofInt 13).toInt32 = 13 := by decide
theorem kB14 : (Int8.ofInt 14).toInt32 = 14 := by decide
theorem kB15 : (Int8.ofInt 15).toInt32 = 15 := by decide
theorem kB16 : (Int8.ofInt 16).toInt32 = 16 := by decide
theorem kB17 : (Int8.ofInt 17).toInt32 = 17 := by decide
theorem kB18 : (Int8.ofInt 18).toInt32 = 18 := by decide
theorem kB20 : (Int8.ofInt 20).toInt32 = 20 := by decide
theorem kB24 : (Int8.ofInt 24).toInt32 = 24 := by decide
theorem kB25 : (Int8.ofInt 25).toInt32 = 25 := by decide
theorem kB32 : (Int8.ofInt 32).toInt32 = 32 := by decide
theorem kB40 : (Int8.ofInt 40).toInt32 = 40 := by decide
theorem kB41 : (Int8.ofInt 41).toInt32 = 41 := by decide
theorem kB42 : (Int8.ofInt 42).toInt32 = 42 := by decide
theorem kB43 : (Int8.ofInt 43).toInt32 = 43 := by decide
theorem kB44 : (Int8.ofInt 44).toInt32 = 44 := by decide
theorem kB45 : (Int8.ofInt 45).toInt32 = 45 := by decide
theorem kB47 : (Int8.ofInt 47).toInt32 = 47 := by decide
theorem kB48 : (Int8.ofInt 48).toInt32 = 48 := by decide
theorem kB51 : (Int8.ofInt 51).toInt32 = 51 := by decide
theorem kB52 : (Int8.ofInt 52).toInt32 = 52 := by decide
theorem kB56 : (Int8.ofInt 56).toInt32 = 56 := by decide
theorem kB57 : (Int8.ofInt 57).toInt32 = 57 := by decide
theorem kB59 : (Int8.ofInt 59).toInt32 = 59 := by decide
theorem kB60 : (Int8.ofInt 60).toInt32 = 60 := by decide
theorem kB63 : (Int8.ofInt 63).toInt32 = 63 := by decide
theorem kB64 : (Int8.ofInt 64).toInt32 = 64 := by decide
theorem kB65 : (Int8.ofInt 65).toInt32 = 65 := by decide
theorem kB66 : (Int8.ofInt 66).toInt32 = 66 := by decide
theorem kB91 : (Int8.ofInt 91).toInt32 = 91 := by decide
theorem kB93 : (Int8.ofInt 93).toInt32 = 93 := by decide
theorem kB96 : (Int8.ofInt 96).toInt32 = 96 := by decide
theorem kB97 : (Int8.ofInt 97).toInt32 = 97 := by decide
theorem kB99 : (Int8.ofInt 99).toInt32 = 99 := by decide
theorem kB100 : (Int8.ofInt 100).toInt32 = 100 := by decide
theorem kB122 : (Int8.ofInt 122).toInt32 = 122 := by decide
theorem kS150 : (Int16.ofInt 150).toInt32 = 150 := by decide
theorem kS200 : (Int16.ofInt 200).toInt32 = 200 := by decide
theorem kS225 : (Int16.ofInt 225).toInt32 = 225 := by decide
theorem kS255 : (Int16.ofInt 255).toInt32 = 255 := by decide
theorem kS300 : (Int16.ofInt 300).toInt32 = 300 := by decide
theorem kS400 : (Int16.ofInt 400).toInt32 = 400 := by decide
theorem kS499 : (Int16.ofInt 499).toInt32 = 499 := by decide
theorem kS500 : (Int16.ofInt 500).toInt32 = 500 := by decide
theorem kS600 : (Int16.ofInt 600).toInt32 = 600 := by decide
theorem kS900 : (Int16.ofInt 900).toInt32 = 900 := by decide
theorem kS999 : (Int16.ofInt 999).toInt32 = 999 := by decide
theorem kS1000 : (Int16.ofInt 1000).toInt32 = 1000 := by decide
theorem kS1056 : (Int16.ofInt 1056).toInt32 = 1056 := by decide
theorem kS1123 : (Int16.ofInt 1123).toInt32 = 1123 := by decide
theorem kS3125 : (Int16.ofInt 3125).toInt32 = 3125 := by decide
theorem kS3369 : (Int16.ofInt 3369).toInt32 = 3369 := by decide
theorem kS9999 : (Int16.ofInt 9999).toInt32 = 9999 := by decide
theorem kS10000 : (Int16.ofInt 10000).toInt32 = 10000 := by decide
theorem kS12345 : (Int16.ofInt 12345).toInt32 = 12345 := by decide
theorem kS32767 : (Int16.ofInt 32767).toInt32 = 32767 := by decide
theorem kL0 : Int64.ofNat ((0 : Fin 2) : Nat) = 0 := by decide
theorem kL1 : Int64.ofNat ((1 : Fin 2) : Nat) = 1 := by decide
