/-! THE TABLES' WORDS STAND WHERE THE TABLES SAY -/
theorem pm_look {α β : Type} [BEq α] [LawfulBEq α] : ∀ {l : List (α × β)} {k : α} {v : β}, l.lookup k = some v → (k, v) ∈ l
  | [], _, _, h => by simp at h
  | (a, b) :: r, k, v, h => by
    rw [List.lookup_cons] at h
    split at h
    · rename_i e
      cases h
      rw [eq_of_beq e]
      exact List.mem_cons_self
    · exact List.mem_cons_of_mem _ (pm_look h)
def pm_tb (j : Nat) : List Cond := match j with
  | 0 => k2_sels lw_privs
  | 1 => tables_1_1
  | 2 => tables_1_2
  | 3 => tables_1_3
  | 4 => tables_1_4
  | 5 => tables_1_5
  | 6 => tables_1_6
  | 7 => tables_1_7
  | 8 => tables_1_8
  | 9 => tables_1_9
  | 10 => tables_1_10
  | _ => []
theorem pm_tb_in {j : Nat} {w : Cond} (h : w ∈ pm_tb j) : w ∈ lw_tbl := by
  unfold lw_tbl tables_1
  unfold pm_tb at h
  simp only [List.mem_append]
  split at h <;> first | (simp only [h, true_or, or_true]; done) | exact absurd h List.not_mem_nil
def pm_wd (h : Nat × Nat) (w : Cond) : Bool := decide ((pm_tb h.1)[h.2]? = some w) && goodWord w
theorem pm_wd_in {h : Nat × Nat} {w : Cond} (e : pm_wd h w = true) : w ∈ lw_tbl ∧ goodWord w = true := by
  unfold pm_wd at e
  rw [Bool.and_eq_true] at e
  exact ⟨pm_tb_in (List.mem_of_getElem? (of_decide_eq_true e.1)), e.2⟩
def pm_fP (q : (Nat × Nat) × (Nat × Nat × Nat) × (Nat × Nat)) : Bool := match vwCl[q.2.1.1]? with
  | some (C, T, N) => decide (q.2.1.2.1 < N) && pm_wd q.2.2 (.fieldLink (pm_cl q.1.1) q.1.2 C (T q.2.1.2.1).2.1 (T q.2.1.2.1).2.2.1) && decide ((T q.2.1.2.1).1 = C) && decide (pm_cl q.2.1.1 = C) && decide (q.2.1.2.2 = pm_fk q.2.1.1 q.2.1.2.1) && decide ((T q.2.1.2.1).2.2.2 = pm_fin q.2.1.1 q.2.1.2.1) &&
    (match parseFieldDescriptor (T q.2.1.2.1).2.2.1 with
    | some .int => decide (q.2.1.2.2 = 0)
    | some (.object _) => decide (q.2.1.2.2 = 2)
    | some (.array _) => decide (q.2.1.2.2 = 2)
    | _ => false)
  | none => false
theorem pm_fPs_0 : pm_ftf_0.all pm_fP = true := by decide +kernel
theorem pm_fPs_1 : pm_ftf_1.all pm_fP = true := by decide +kernel
theorem pm_fPs_2 : pm_ftf_2.all pm_fP = true := by decide +kernel
theorem pm_fPs_3 : pm_ftf_3.all pm_fP = true := by decide +kernel
theorem pm_fPs_4 : pm_ftf_4.all pm_fP = true := by decide +kernel
theorem pm_fPs : pm_ftf.all pm_fP = true := by
  unfold pm_ftf
  simp only [List.all_append, Bool.and_eq_true]
  exact ⟨pm_fPs_0, pm_fPs_1, pm_fPs_2, pm_fPs_3, pm_fPs_4⟩

def pm_cw (m : Nat) : Cond := match pm_hh m with
  | [] => .code (pm_y m) (pm_by m) (pm_ml m) (pm_rt m)
  | h => .codeWith (pm_y m) (pm_by m) (pm_ml m) (pm_rt m) h
/-- a method's own words -/
def pm_mP (m : Nat) : Bool := (decide (m = 361) || pm_wd (pm_cdh.getD m (99, 0)) (pm_cw m)) && decide ((pm_y m).cls ≠ "java/lang/invoke/MethodHandle" ∧ (pm_y m).cls ≠ "java/lang/invoke/VarHandle") && plainFor (pm_y m) && decide (pm_ml m ≤ 40) && decide (pm_cl (pm_k m) = (pm_y m).cls)
theorem pm_mPs_0 : ((List.range 24).map (fun i => 0 + i)).all pm_mP = true := by decide +kernel
theorem pm_mPs_1 : ((List.range 24).map (fun i => 24 + i)).all pm_mP = true := by decide +kernel
theorem pm_mPs_2 : ((List.range 24).map (fun i => 48 + i)).all pm_mP = true := by decide +kernel
theorem pm_mPs_3 : ((List.range 24).map (fun i => 72 + i)).all pm_mP = true := by decide +kernel
