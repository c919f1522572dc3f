/-! THE TABLES' WORDS STAND WHERE THE TABLES SAY -/
theorem pm_look {α β : Type} [BEq α] [LawfulBEq α] : ∀ {l : List (α × β)} {k : α} {v : β}, l.lookup k = some v → (k, v) ∈ l
  | [], _, _, h => by simp at h
  | (a, b) :: r, k, v, h => by
    rw [List.lookup_cons] at h
    split at h
    · rename_i e
      cases h
      rw [eq_of_beq e]
      exact List.mem_cons_self
    · exact List.mem_cons_of_mem _ (pm_look h)
def pm_tb (j : Nat) : List Cond := match j with
  | 0 => k2_sels lw_privs
  | 1 => tables_1_1
  | 2 => tables_1_2
  | 3 => tables_1_3
  | 4 => tables_1_4
  | 5 => tables_1_5
  | 6 => tables_1_6
  | 7 => tables_1_7
  | 8 => tables_1_8
  | 9 => tables_1_9
  | 10 => tables_1_10
  | _ => []
theorem pm_tb_in {j : Nat} {w : Cond} (h : w ∈ pm_tb j) : w ∈ lw_tbl := by
  unfold lw_tbl tables_1
  unfold pm_tb at h
  simp only [List.mem_append]
  split at h <;> first | (simp only [h, true_or, or_true]; done) | exact absurd h List.not_mem_nil
def pm_wd (h : Nat × Nat) (w : Cond) : Bool := decide ((pm_tb h.1)[h.2]? = some w) && goodWord w
theorem pm_wd_in {h : Nat × Nat} {w : Cond} (e : pm_wd h w = true) : w ∈ lw_tbl ∧ goodWord w = true := by
  unfold pm_wd at e
  rw [Bool.and_eq_true] at e
  exact ⟨pm_tb_in (List.mem_of_getElem? (of_decide_eq_true e.1)), e.2⟩
def pm_fP (q : (Nat × Nat) × (Nat × Nat × Nat) × (Nat × Nat)) : Bool := match vwCl[q.2.1.1]? with
  | some (C, T, N) => decide (q.2.1.2.1 < N) && pm_wd q.2.2 (.fieldLink (pm_cl q.1.1) q.1.2 C (T q.2.1.2.1).2.1 (T q.2.1.2.1).2.2.1) && decide ((T q.2.1.2.1).1 = C) && decide (pm_cl q.2.1.1 = C) && decide (q.2.1.2.2 = pm_fk q.2.1.1 q.2.1.2.1) && decide ((T q.2.1.2.1).2.2.2 = pm_fin q.2.1.1 q.2.1.2.1) &&
    (match parseFieldDescriptor (T q.2.1.2.1).2.2.1 with
    | some .int => decide (q.2.1.2.2 = 0)
    | some (.object _) => decide (q.2.1.2.2 = 2)
    | some (.array _) => decide (q.2.1.2.2 = 2)
    | _ => false)
  | none => false
theorem pm_fPs_0 : pm_ftf_0.all pm_fP = true := by decide +kernel
theorem pm_fPs_1 : pm_ftf_1.all pm_fP = true := by decide +kernel
theorem pm_fPs_2 : pm_ftf_2.all pm_fP = true := by decide +kernel
theorem pm_fPs_3 : pm_ftf_3.all pm_fP = true := by decide +kernel
theorem pm_fPs_4 : pm_ftf_4.all pm_fP = true := by decide +kernel
theorem pm_fPs : pm_ftf.all pm_fP = true := by
  unfold pm_ftf
  simp only [List.all_append, Bool.and_eq_true]
  exact ⟨pm_fPs_0, pm_fPs_1, pm_fPs_2, pm_fPs_3, pm_fPs_4⟩

def pm_cw (m : Nat) : Cond := match pm_hh m with
  | [] => .code (pm_y m) (pm_by m) (pm_ml m) (pm_rt m)
  | h => .codeWith (pm_y m) (pm_by m) (pm_ml m) (pm_rt m) h
/-- a method's own words -/
def pm_mP (m : Nat) : Bool := (decide (m = 361) || pm_wd (pm_cdh.getD m (99, 0)) (pm_cw m)) && decide ((pm_y m).cls ≠ "java/lang/invoke/MethodHandle" ∧ (pm_y m).cls ≠ "java/lang/invoke/VarHandle") && plainFor (pm_y m) && decide (pm_ml m ≤ 40) && decide (pm_cl (pm_k m) = (pm_y m).cls)
theorem pm_mPs_0 : ((List.range 24).map (fun i => 0 + i)).all pm_mP = true := by decide +kernel
theorem pm_mPs_1 : ((List.range 24).map (fun i => 24 + i)).all pm_mP = true := by decide +kernel
theorem pm_mPs_2 : ((List.range 24).map (fun i => 48 + i)).all pm_mP = true := by decide +kernel
theorem pm_mPs_3 : ((List.range 24).map (fun i => 72 + i)).all pm_mP = true := by decide +kernel
theorem pm_mPs_4 : ((List.range 24).map (fun i => 96 + i)).all pm_mP = true := by decide +kernel
theorem pm_mPs_5 : ((List.range 24).map (fun i => 120 + i)).all pm_mP = true := by decide +kernel
theorem pm_mPs_6 : ((List.range 24).map (fun i => 144 + i)).all pm_mP = true := by decide +kernel
theorem pm_mPs_7 : ((List.range 24).map (fun i => 168 + i)).all pm_mP = true := by decide +kernel
theorem pm_mPs_8 : ((List.range 24).map (fun i => 192 + i)).all pm_mP = true := by decide +kernel
theorem pm_mPs_9 : ((List.range 24).map (fun i => 216 + i)).all pm_mP = true := by decide +kernel
theorem pm_mPs_10 : ((List.range 24).map (fun i => 240 + i)).all pm_mP = true := by decide +kernel
theorem pm_mPs_11 : ((List.range 24).map (fun i => 264 + i)).all pm_mP = true := by decide +kernel
theorem pm_mPs_12 : ((List.range 24).map (fun i => 288 + i)).all pm_mP = true := by decide +kernel
theorem pm_mPs_13 : ((List.range 24).map (fun i => 312 + i)).all pm_mP = true := by decide +kernel
theorem pm_mPs_14 : ((List.range 24).map (fun i => 336 + i)).all pm_mP = true := by decide +kernel
theorem pm_mPs_15 : ((List.range 13).map (fun i => 360 + i)).all pm_mP = true := by decide +kernel
theorem pm_mPs {m : Nat} (h : m < 373) : pm_mP m = true := by
  have key : ∀ (a n : Nat), ((List.range n).map (fun i => a + i)).all pm_mP = true → a ≤ m → m < a + n → pm_mP m = true := fun a n h1 h2 h3 =>
    List.all_eq_true.mp h1 m (List.mem_map.mpr ⟨m - a, List.mem_range.mpr (by omega), by omega⟩)
  by_cases h0 : m < 24
  · exact key 0 24 pm_mPs_0 (by omega) (by omega)
  by_cases h1 : m < 48
  · exact key 24 24 pm_mPs_1 (by omega) (by omega)
  by_cases h2 : m < 72
  · exact key 48 24 pm_mPs_2 (by omega) (by omega)
  by_cases h3 : m < 96
  · exact key 72 24 pm_mPs_3 (by omega) (by omega)
  by_cases h4 : m < 120
  · exact key 96 24 pm_mPs_4 (by omega) (by omega)
  by_cases h5 : m < 144
  · exact key 120 24 pm_mPs_5 (by omega) (by omega)
  by_cases h6 : m < 168
  · exact key 144 24 pm_mPs_6 (by omega) (by omega)
  by_cases h7 : m < 192
  · exact key 168 24 pm_mPs_7 (by omega) (by omega)
  by_cases h8 : m < 216
  · exact key 192 24 pm_mPs_8 (by omega) (by omega)
  by_cases h9 : m < 240
  · exact key 216 24 pm_mPs_9 (by omega) (by omega)
  by_cases h10 : m < 264
  · exact key 240 24 pm_mPs_10 (by omega) (by omega)
  by_cases h11 : m < 288
  · exact key 264 24 pm_mPs_11 (by omega) (by omega)
  by_cases h12 : m < 312
  · exact key 288 24 pm_mPs_12 (by omega) (by omega)
  by_cases h13 : m < 336
  · exact key 312 24 pm_mPs_13 (by omega) (by omega)
  by_cases h14 : m < 360
  · exact key 336 24 pm_mPs_14 (by omega) (by omega)
  exact key 360 13 pm_mPs_15 (by omega) (by omega)

def pm_tP (q : (Nat × Nat) × (Nat × Nat × Nat × Bool) × ((Nat × Nat) × (Nat × Nat) × (Nat × Nat))) : Bool :=
  decide (q.2.1.1 < 373 ∧ q.2.1.1 ≠ 361) &&
  (if q.2.1.2.2.2 = true then decide ((pm_tb q.2.2.1.1)[q.2.2.1.2]? = some (.methodLinkNest (pm_cl q.1.1) q.1.2 (pm_y q.2.1.1) "PassagePapers")) else pm_wd q.2.2.1 (.methodLink (pm_cl q.1.1) q.1.2 (pm_y q.2.1.1))) &&
  (if q.2.1.2.2.1 = 0 then (pm_wd q.2.2.2.1 (.static (pm_y q.2.1.1)) && pm_wd q.2.2.2.2 (.initialized (pm_y q.2.1.1).cls)) else pm_wd q.2.2.2.1 (.instanceMethod (pm_y q.2.1.1))) &&
  (if q.2.1.2.2.1 = 1 then pm_wd q.2.2.2.2 (.selects (pm_y q.2.1.1).cls (pm_y q.2.1.1) (pm_y q.2.1.1)) else true) &&
  (if q.2.1.2.2.1 = 2 then decide ((pm_y q.2.1.1).name = "<init>" ∧ pm_rt q.2.1.1 = none ∧ pm_hh q.2.1.1 = []) else true) && decide (q.2.1.2.2.1 ≤ 2) &&
  (match parseMethodDescriptor (pm_y q.2.1.1).desc with
  | some sg => decide (sg.parameters.length = q.2.1.2.1)
  | none => false)
theorem pm_tPs_0 : pm_ttf_0.all pm_tP = true := by decide +kernel
theorem pm_tPs_1 : pm_ttf_1.all pm_tP = true := by decide +kernel
theorem pm_tPs_2 : pm_ttf_2.all pm_tP = true := by decide +kernel
theorem pm_tPs_3 : pm_ttf_3.all pm_tP = true := by decide +kernel
theorem pm_tPs_4 : pm_ttf_4.all pm_tP = true := by decide +kernel
theorem pm_tPs_5 : pm_ttf_5.all pm_tP = true := by decide +kernel
theorem pm_tPs_6 : pm_ttf_6.all pm_tP = true := by decide +kernel
theorem pm_tPs_7 : pm_ttf_7.all pm_tP = true := by decide +kernel
theorem pm_tPs_8 : pm_ttf_8.all pm_tP = true := by decide +kernel
theorem pm_tPs_9 : pm_ttf_9.all pm_tP = true := by decide +kernel
theorem pm_tPs_10 : pm_ttf_10.all pm_tP = true := by decide +kernel
theorem pm_tPs_11 : pm_ttf_11.all pm_tP = true := by decide +kernel
theorem pm_tPs_12 : pm_ttf_12.all pm_tP = true := by decide +kernel
theorem pm_tPs_13 : pm_ttf_13.all pm_tP = true := by decide +kernel
theorem pm_tPs_14 : pm_ttf_14.all pm_tP = true := by decide +kernel
theorem pm_tPs_15 : pm_ttf_15.all pm_tP = true := by decide +kernel
theorem pm_tPs : pm_ttf.all pm_tP = true := by
  unfold pm_ttf
  simp only [List.all_append, Bool.and_eq_true]
  exact ⟨pm_tPs_0, pm_tPs_1, pm_tPs_2, pm_tPs_3, pm_tPs_4, pm_tPs_5, pm_tPs_6, pm_tPs_7, pm_tPs_8, pm_tPs_9, pm_tPs_10, pm_tPs_11, pm_tPs_12, pm_tPs_13, pm_tPs_14, pm_tPs_15⟩

def pm_nP (q : (Nat × Nat) × (Nat × Nat) × ((Nat × Nat) × (Nat × Nat) × (Nat × Nat))) : Bool := match vwCl[q.2.1.1]? with
  | some (C, _, N) => decide (N = q.2.1.2) && pm_wd q.2.2.1 (.classLink (pm_cl q.1.1) q.1.2 C) && pm_wd q.2.2.2.1 (.instantiable C N) && pm_wd q.2.2.2.2 (.initialized C)
  | none => false
theorem pm_nPs_0 : pm_clf_0.all pm_nP = true := by decide +kernel
theorem pm_nPs : pm_clf.all pm_nP = true := by
  unfold pm_clf
  exact pm_nPs_0

def pm_cP (q : (Nat × Nat) × Value × (Nat × Nat)) : Bool := match q.2.1 with
  | .int x => pm_wd q.2.2 (.constant (pm_cl q.1.1) q.1.2 x)
  | .long x => pm_wd q.2.2 (.constantLong (pm_cl q.1.1) q.1.2 x)
  | .retAddr x => decide (2 ≤ x ∧ x % 2 = 0 ∧ x < 2 + 2 * pm_tx.length)
  | _ => false
theorem pm_cPs_0 : pm_ctf_0.all pm_cP = true := by decide +kernel
theorem pm_cPs_1 : pm_ctf_1.all pm_cP = true := by decide +kernel
theorem pm_cPs_2 : pm_ctf_2.all pm_cP = true := by decide +kernel
theorem pm_cPs : pm_ctf.all pm_cP = true := by
  unfold pm_ctf
  simp only [List.all_append, Bool.and_eq_true]
  exact ⟨pm_cPs_0, pm_cPs_1, pm_cPs_2⟩

theorem pm_oPs : pm_oil.all (fun q => decide (Cond.methodLink (pm_cl q.1) q.2 Lib.objectInit ∈ lw_tbl) && goodWord (Cond.methodLink (pm_cl q.1) q.2 Lib.objectInit)) = true := by decide +kernel
theorem pm_oI : Cond.instanceMethod Lib.objectInit ∈ lw_tbl ∧ goodWord (Cond.instanceMethod Lib.objectInit) = true := by decide +kernel
theorem pm_oC : Cond.code Lib.objectInit ⟨#[0xb1]⟩ 1 none ∈ lw_tbl ∧ goodWord (Cond.code Lib.objectInit ⟨#[0xb1]⟩ 1 none) = true := by decide +kernel
theorem pm_uP : ∀ q ∈ vwCl, ∀ w ∈ u_ws q.1 q.2.1 q.2.2, w ∈ lw_tbl ∧ goodWord w = true := by decide +kernel
theorem pm_aI : Cond.arrayClass .int ∈ lw_tbl := by decide +kernel
theorem pm_aJ : Cond.arrayClass .long ∈ lw_tbl := by decide +kernel
theorem pm_aZ : Cond.arrayClass .boolean ∈ lw_tbl := by decide +kernel
theorem pm_aAl : Cond.classLink "PassagePapers$Archive" 11 "[[I" ∈ lw_tbl ∧ goodWord (Cond.classLink "PassagePapers$Archive" 11 "[[I") = true := by decide +kernel
theorem pm_acl1 : Cond.methodLink "PassagePapers" 390 arraycopyName ∈ lw_tbl ∧ goodWord (Cond.methodLink "PassagePapers" 390 arraycopyName) = true := by decide +kernel
theorem pm_acl2 : Cond.native arraycopyName ∈ lw_tbl ∧ goodWord (Cond.native arraycopyName) = true := by decide +kernel
theorem pm_acl3 : Cond.static arraycopyName ∈ lw_tbl ∧ goodWord (Cond.static arraycopyName) = true := by decide +kernel
theorem pm_acl4 : Cond.initialized "java/lang/System" ∈ lw_tbl ∧ goodWord (Cond.initialized "java/lang/System") = true := by decide +kernel
