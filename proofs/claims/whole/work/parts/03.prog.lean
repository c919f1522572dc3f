/-! THE PROGRAM'S TABLES, BY NUMBER -/
def pm_d0 : Nat × MethodName × ByteArray × Nat × Option FieldType × List (Nat × Nat × Nat × Nat) := (99, ⟨"", "", ""⟩, ⟨#[]⟩, 0, none, [])
def pm_pr (m : Nat) : Nat × MethodName × ByteArray × Nat × Option FieldType × List (Nat × Nat × Nat × Nat) := pm_prog.getD m pm_d0
def pm_k (m : Nat) : Nat := (pm_pr m).1
def pm_y (m : Nat) : MethodName := (pm_pr m).2.1
def pm_by (m : Nat) : ByteArray := (pm_pr m).2.2.1
def pm_ml (m : Nat) : Nat := (pm_pr m).2.2.2.1
def pm_rt (m : Nat) : Option FieldType := (pm_pr m).2.2.2.2.1
def pm_hh (m : Nat) : List (Nat × Nat × Nat × Nat) := (pm_pr m).2.2.2.2.2
def pm_ini (m : Nat) : Bool := decide ((pm_y m).name = "<init>")
def pm_fk (c f : Nat) : Nat := (pm_fkl.getD c []).getD f 0
def pm_fin (c f : Nat) : Bool := (pm_fnl.getD c []).getD f true
def pm_cl (k : Nat) : String := pm_cn.getD k ""
def pm_fd (k i : Nat) : Option (Nat × Nat × Nat) := pm_ftl.lookup (k, i)
def pm_tg (k i : Nat) : Option (Nat × Nat × Nat × Bool) := pm_ttl.lookup (k, i)
def pm_nc (k i : Nat) : Option (Nat × Nat) := pm_cll.lookup (k, i)
def pm_ct (k i : Nat) : Option Value := pm_ctl.lookup (k, i)
