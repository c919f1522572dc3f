/-! ROWS THAT MAKE CELLS -/
section Nw
variable {X : (Nat → Int32) × Nat} {d m pc n : Nat} {L S : List Value} {μ ν : pm_M} {r : pm_R}
theorem r_nw {i ci nf : Nat} (h : pm_code m pc = some (.new i, n)) (hn : pm_nc (pm_k m) i = some (ci, nf)) (hc : ci < 13) (hok : pm_ok μ nf = true) (k : pm_Fx X d m n L (.ref μ.2.2.2.1.length :: S) (pm_mk μ ci nf) r ν) : pm_Fx X d m pc L S μ r ν :=
  fx_step h (by simp [pm_step, pm_nw, hn, hc, hok]) k
theorem r_nal {j : Int32} (h : pm_code m pc = some (.newarray .long, n)) (h0 : 0 ≤ j.toInt) (hok : pm_ok μ j.toNatClampNeg = true) (k : pm_Fx X d m n L (.ref μ.2.2.2.1.length :: S) (pm_mk μ 21 j.toNatClampNeg) r ν) : pm_Fx X d m pc L (.int j :: S) μ r ν :=
  fx_step h (by simp [pm_step, pm_na, h0, hok]) k
end Nw
