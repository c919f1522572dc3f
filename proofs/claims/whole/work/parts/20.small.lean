/-! THE WORLD OF REFERENCES; SMALL METHODS -/
def pm_rgT (P : Nat → Nat → Value) (r : Nat) : Prop := pm_T0[r]? = some (5, 11) ∧ (pm_T0[r + 1]? = some (20, 8) ∧ pm_T0[r + 2]? = some (20, 8) ∧ pm_T0[r + 3]? = some (20, 8) ∧ pm_T0[r + 4]? = some (20, 8) ∧ pm_T0[r + 5]? = some (20, 5) ∧ pm_T0[r + 6]? = some (20, 5) ∧ pm_T0[r + 7]? = some (20, 5)) ∧ (P r 0 = .ref (r + 1) ∧ P r 1 = .ref (r + 2) ∧ P r 2 = .ref (r + 3) ∧ P r 3 = .ref (r + 4) ∧ P r 4 = .ref (r + 5) ∧ P r 5 = .ref (r + 6) ∧ P r 6 = .ref (r + 7))
def pm_lwT (P : Nat → Nat → Value) (l : Nat) : Prop := pm_T0[l]? = some (2, 3) ∧ pm_T0[l + 1]? = some (20, 150) ∧ pm_T0[l + 2]? = some (20, 32) ∧ P l 0 = .ref (l + 1) ∧ P l 1 = .ref (l + 2)
def pm_bkT (P : Nat → Nat → Value) (k : Nat) : Prop := pm_T0[k]? = some (1, 3) ∧ pm_T0[k + 1]? = some (20, 8) ∧ pm_T0[k + 2]? = some (20, 8) ∧ P k 0 = .ref (k + 1) ∧ P k 1 = .ref (k + 2)
/-- the references, but for the four that change -/
def pm_spt : List (List Value) := [[.ref 1, .ref 3, .ref 23, .ref 94, .ref 97, .ref 102, .ref 104, .ref 112], [.ref 2], [], [.ref 4, .ref 6, .ref 9, .ref 12, .ref 13, .ref 14], [.ref 5], [], [.ref 7, .ref 8], [], [], [.ref 10, .ref 11], [], [], [], [], [], [.ref 16, .ref 17, .ref 18, .ref 19, .ref 20, .ref 21, .ref 22], [], [], [], [], [], [], [], [.ref 24, .ref 41, .ref 93], [.ref 25, .ref 26, .ref 27, .ref 28, .ref 29, .ref 30, .ref 31, .ref 32, .ref 33, .ref 34, .ref 35, .ref 36, .ref 37, .ref 38, .ref 39, .ref 40], [], [], [], [], [], [], [], [], [], [], [], [], [], [], [], [], [.ref 42, .ref 43, .ref 44, .ref 45, .ref 46, .ref 47, .ref 48, .ref 49, .ref 50, .ref 51, .ref 52, .ref 53, .ref 54, .ref 55, .ref 56, .ref 57, .ref 58, .ref 59, .ref 60, .ref 61, .ref 62, .ref 63, .ref 64, .ref 65, .ref 66, .ref 67, .ref 68, .ref 69, .ref 70, .ref 71, .ref 72, .ref 73, .ref 74, .ref 75, .ref 76, .ref 77, .ref 78, .ref 79, .ref 80, .ref 81, .ref 82, .ref 83, .ref 84, .ref 85, .ref 86, .ref 87, .ref 88, .ref 89, .ref 90, .ref 91, .ref 92], [], [], [], [], [], [], [], [], [], [], [], [], [], [], [], [], [], [], [], [], [], [], [], [], [], [], [], [], [], [], [], [], [], [], [], [], [], [], [], [], [], [], [], [], [], [], [], [], [], [], [], [], [.ref 95, .ref 96], [], [], [.ref 98, .ref 99, .ref 100, .ref 101], [], [], [], [], [.ref 103], [], [.ref 105, .ref 106, .ref 107, .ref 108, .ref 109, .ref 110, .ref 111], [], [], [], [], [], [], [], [], [.ref 114, .ref 115, .ref 116, .ref 117, .ref 118, .ref 119, .ref 120], [], [], [], [], [], [], [], [.ref 122, .ref 123], [], [], [.ref 125, .ref 126], [], [], [.null, .ref 128, .null, .null, .null, .null, .null, .null, .null, .ref 129, .ref 130, .ref 131, .ref 132, .ref 133, .null, .null, .null, .null, .null, .null, .null, .ref 134, .ref 135, .ref 136, .ref 137, .ref 138, .ref 139, .null, .ref 140, .ref 141, .ref 142, .null, .null, .null, .null, .null, .null, .ref 143, .ref 144, .ref 145, .null, .null, .null, .ref 146, .ref 147, .null, .ref 148, .ref 149, .ref 150, .ref 151, .null, .ref 152, .ref 153, .ref 154, .ref 155, .null, .null, .ref 156], [], [], [], [], [], [], [], [], [], [], [], [], [], [], [], [], [], [], [], [], [], [], [], [], [], [], [], [], [], []]
def pm_sp (a f : Nat) : Value := (pm_spt.getD a []).getD f .null
/-- all of them: the register and the book in use, the drafts -/
def pm_W (P : Nat → Nat → Value) (r k r2 k2 : Nat) : Prop := (∀ a f q : Nat, pm_sp a f = .ref q → P a f = .ref q) ∧ P 3 6 = .ref r ∧ P 0 9 = .ref k ∧ P 0 8 = .ref r2 ∧ P 0 10 = .ref k2 ∧ pm_rgT P r ∧ pm_bkT P k ∧ pm_rgT P r2 ∧ pm_bkT P k2 ∧ pm_lwT P 6 ∧ pm_lwT P 9 ∧ pm_lwT P 94
def pm_w (I : Nat → Nat → Int32) (a f : Nat) (x : Int32) : Nat → Nat → Int32 := va_up I a (upd (I a) f x)
def pm_pw (I : Nat → Nat → Int32) (a len : Nat) (i x : Int32) : Nat → Nat → Int32 := va_up I a (pm_put (I a) len i x)
def pm_wl (J : Nat → Nat → Int64) (a f : Nat) (x : Int64) : Nat → Nat → Int64 := va_up J a (vp_updL (J a) f x)
def pm_bi (b : Bool) : Int32 := cond b 1 0
theorem pm_bi0 {b : Bool} : pm_bi b = 0 ↔ b = false := by cases b <;> decide
theorem pm_bi01 (b : Bool) : pm_bi b = 0 ∨ pm_bi b = 1 := by cases b <;> decide
def pm_lt {α β : Type} (x : α) (k : α → β) : β := k x
theorem pm_lt_eq {α β : Type} (x : α) (k : α → β) : pm_lt x k = k x := rfl
def pm_gd {β : Type} (c : Bool) (o : Option β) : Option β := bif c then o else none
theorem pm_gd_sp {β : Type} {c : Bool} {o : Option β} {v : β} (h : pm_gd c o = some v) : c = true ∧ o = some v := by
  cases c
  · cases h
  · exact ⟨rfl, h⟩
def pm_in (j : Int32) (len : Nat) : Bool := decide (0 ≤ j.toInt) && decide (j.toInt < (len : Int))
theorem pm_in_sp {j : Int32} {len : Nat} (h : pm_in j len = true) : 0 ≤ j.toInt ∧ j.toInt < (len : Int) := by
  unfold pm_in at h
  simpa only [Bool.and_eq_true, decide_eq_true_eq] using h
section G
variable {X : (Nat → Int32) × Nat} {d m pc n : Nat} {L S : List Value} {ν : pm_M} {rr : pm_R} {I : Nat → Nat → Int32} {J : Nat → Nat → Int64} {P : Nat → Nat → Value} {T : List (Nat × Nat)} {e : Nat}
theorem w_pi {ci f nf a : Nat} {x : Int32} (h : pm_pF m pc n ci f 0) (hT : T[a]? = some (ci, nf)) (hf : Nat.blt f nf = true) (k : pm_Fx X d m n L S (pm_w I a f x, J, P, T, e) rr ν) : pm_Fx X d m pc L (.int x :: .ref a :: S) (I, J, P, T, e) rr ν := r_pi h hT hf k
theorem w_ist {a len : Nat} {j x : Int32} (h : pm_code m pc = some (.iastore, n)) (hT : T[a]? = some (20, len)) (hj : pm_in j len = true) (k : pm_Fx X d m n L S (pm_w I a j.toNatClampNeg x, J, P, T, e) rr ν) : pm_Fx X d m pc L (.int x :: .int j :: .ref a :: S) (I, J, P, T, e) rr ν := r_ist h hT (pm_in_sp hj).1 (pm_in_sp hj).2 k
theorem w_bst {a len : Nat} {j x : Int32} (h : pm_code m pc = some (.bastore, n)) (hT : T[a]? = some (22, len)) (hj : pm_in j len = true) (k : pm_Fx X d m n L S (pm_w I a j.toNatClampNeg (vp_nar .boolean x), J, P, T, e) rr ν) : pm_Fx X d m pc L (.int x :: .int j :: .ref a :: S) (I, J, P, T, e) rr ν := r_bst h hT (pm_in_sp hj).1 (pm_in_sp hj).2 k
theorem w_lst {a len : Nat} {j : Int32} {x : Int64} (h : pm_code m pc = some (.lastore, n)) (hT : T[a]? = some (21, len)) (hj : pm_in j len = true) (k : pm_Fx X d m n L S (I, pm_wl J a j.toNatClampNeg x, P, T, e) rr ν) : pm_Fx X d m pc L (.long x :: .int j :: .ref a :: S) (I, J, P, T, e) rr ν := r_lst h hT (pm_in_sp hj).1 (pm_in_sp hj).2 k
theorem w_ia {a len : Nat} {j : Int32} (h : pm_code m pc = some (.iaload, n)) (hT : T[a]? = some (20, len)) (hj : pm_in j len = true) (k : pm_Fx X d m n L (.int (I a j.toNatClampNeg) :: S) (I, J, P, T, e) rr ν) : pm_Fx X d m pc L (.int j :: .ref a :: S) (I, J, P, T, e) rr ν := r_ia h hT (pm_in_sp hj).1 (pm_in_sp hj).2 k
theorem w_ba {a len : Nat} {j : Int32} (h : pm_code m pc = some (.baload, n)) (hT : T[a]? = some (22, len)) (hj : pm_in j len = true) (k : pm_Fx X d m n L (.int (I a j.toNatClampNeg) :: S) (I, J, P, T, e) rr ν) : pm_Fx X d m pc L (.int j :: .ref a :: S) (I, J, P, T, e) rr ν := r_ba h hT (pm_in_sp hj).1 (pm_in_sp hj).2 k
theorem w_la {a len : Nat} {j : Int32} (h : pm_code m pc = some (.laload, n)) (hT : T[a]? = some (21, len)) (hj : pm_in j len = true) (k : pm_Fx X d m n L (.long (J a j.toNatClampNeg) :: S) (I, J, P, T, e) rr ν) : pm_Fx X d m pc L (.int j :: .ref a :: S) (I, J, P, T, e) rr ν := r_la h hT (pm_in_sp hj).1 (pm_in_sp hj).2 k
theorem t159 {a len : Nat} {i x : Int32} (hT : T[a]? = some (20, len)) (hl : len < 2 ^ 31) : pm_Fn X d 159 0 [.ref a, .int i, .int x] (I, J, P, T, e) (.inl none) (pm_pw I a len i x, J, P, T, e) := s159 hT hl
theorem s1 {a : Nat} (hT : T[a]? = some (0, 5)) : pm_Fn X d 1 1 [.ref a] (I, J, P, T, e) (.inl (some (.int (I a 3)))) (I, J, P, T, e) := by
  refine fn_v rc1 hT ml1 rfl rfl rfl rfl ?_
  refine al0 c1_0 ?_
  refine r_gi g1_1 (by first | rfl | assumption) rfl ?_
  exact r_ri c1_4 rt1 rfl rfl
theorem s3 {a : Nat} (hT : T[a]? = some (0, 5)) : pm_Fn X d 3 1 [.ref a] (I, J, P, T, e) (.inl (some (.int (I a 4)))) (I, J, P, T, e) := by
  refine fn_v rc3 hT ml3 rfl rfl rfl rfl ?_
  refine al0 c3_0 ?_
  refine r_gi g3_1 (by first | rfl | assumption) rfl ?_
  exact r_ri c3_4 rt3 rfl rfl
theorem s13 {a : Nat} (hT : T[a]? = some (1, 3)) : pm_Fn X d 13 1 [.ref a] (I, J, P, T, e) (.inl (some (.int (I a 2)))) (I, J, P, T, e) := by
  refine fn_v rc13 hT ml13 rfl rfl rfl rfl ?_
  refine al0 c13_0 ?_
  refine r_gi g13_1 (by first | rfl | assumption) rfl ?_
  exact r_ri c13_4 rt13 rfl rfl
theorem s75 {a : Nat} (hT : T[a]? = some (4, 13)) : pm_Fn X d 75 1 [.ref a] (I, J, P, T, e) (.inl (some (.int (I a 10)))) (I, J, P, T, e) := by
  refine fn_v rc75 hT ml75 rfl rfl rfl rfl ?_
  refine al0 c75_0 ?_
  refine r_gi g75_1 (by first | rfl | assumption) rfl ?_
  exact r_ri c75_4 rt75 rfl rfl
theorem s76 {a : Nat} (hT : T[a]? = some (4, 13)) : pm_Fn X d 76 1 [.ref a] (I, J, P, T, e) (.inl (some (.int (I a 11)))) (I, J, P, T, e) := by
  refine fn_v rc76 hT ml76 rfl rfl rfl rfl ?_
  refine al0 c76_0 ?_
  refine r_gi g76_1 (by first | rfl | assumption) rfl ?_
  exact r_ri c76_4 rt76 rfl rfl
theorem s80 {a : Nat} (hT : T[a]? = some (5, 11)) : pm_Fn X d 80 1 [.ref a] (I, J, P, T, e) (.inl (some (.int (I a 9)))) (I, J, P, T, e) := by
  refine fn_v rc80 hT ml80 rfl rfl rfl rfl ?_
  refine al0 c80_0 ?_
  refine r_gi g80_1 (by first | rfl | assumption) rfl ?_
  exact r_ri c80_4 rt80 rfl rfl
theorem s81 {a : Nat} (hT : T[a]? = some (5, 11)) : pm_Fn X d 81 1 [.ref a] (I, J, P, T, e) (.inl (some (.int (I a 7)))) (I, J, P, T, e) := by
  refine fn_v rc81 hT ml81 rfl rfl rfl rfl ?_
  refine al0 c81_0 ?_
  refine r_gi g81_1 (by first | rfl | assumption) rfl ?_
  exact r_ri c81_4 rt81 rfl rfl
theorem s92 {a : Nat} (hT : T[a]? = some (5, 11)) : pm_Fn X d 92 1 [.ref a] (I, J, P, T, e) (.inl (some (.int (I a 8)))) (I, J, P, T, e) := by
  refine fn_v rc92 hT ml92 rfl rfl rfl rfl ?_
  refine al0 c92_0 ?_
  refine r_gi g92_1 (by first | rfl | assumption) rfl ?_
  exact r_ri c92_4 rt92 rfl rfl
theorem s93 {a : Nat} (hT : T[a]? = some (5, 11)) : pm_Fn X d 93 1 [.ref a] (I, J, P, T, e) (.inl (some (.int (I a 10)))) (I, J, P, T, e) := by
  refine fn_v rc93 hT ml93 rfl rfl rfl rfl ?_
  refine al0 c93_0 ?_
  refine r_gi g93_1 (by first | rfl | assumption) rfl ?_
  exact r_ri c93_4 rt93 rfl rfl
theorem s117 {a : Nat} (hT : T[a]? = some (7, 8)) : pm_Fn X d 117 1 [.ref a] (I, J, P, T, e) (.inl (some (.int (I a 4)))) (I, J, P, T, e) := by
  refine fn_v rc117 hT ml117 rfl rfl rfl rfl ?_
  refine al0 c117_0 ?_
  refine r_gi g117_1 (by first | rfl | assumption) rfl ?_
  exact r_ri c117_4 rt117 rfl rfl
theorem s120 {a : Nat} (hT : T[a]? = some (7, 8)) : pm_Fn X d 120 1 [.ref a] (I, J, P, T, e) (.inl (some (.int (I a 7)))) (I, J, P, T, e) := by
  refine fn_v rc120 hT ml120 rfl rfl rfl rfl ?_
  refine al0 c120_0 ?_
  refine r_gi g120_1 (by first | rfl | assumption) rfl ?_
  exact r_ri c120_4 rt120 rfl rfl
theorem s121 {a : Nat} (hT : T[a]? = some (7, 8)) : pm_Fn X d 121 1 [.ref a] (I, J, P, T, e) (.inl (some (.int (I a 6)))) (I, J, P, T, e) := by
  refine fn_v rc121 hT ml121 rfl rfl rfl rfl ?_
  refine al0 c121_0 ?_
  refine r_gi g121_1 (by first | rfl | assumption) rfl ?_
  exact r_ri c121_4 rt121 rfl rfl
theorem s123 {a : Nat} (hT : T[a]? = some (8, 9)) : pm_Fn X d 123 1 [.ref a] (I, J, P, T, e) (.inl (some (.int (I a 1)))) (I, J, P, T, e) := by
  refine fn_v rc123 hT ml123 rfl rfl rfl rfl ?_
  refine al0 c123_0 ?_
  refine r_gi g123_1 (by first | rfl | assumption) rfl ?_
  exact r_ri c123_4 rt123 rfl rfl
theorem s125 {a : Nat} (hT : T[a]? = some (8, 9)) : pm_Fn X d 125 1 [.ref a] (I, J, P, T, e) (.inl (some (.int (I a 8)))) (I, J, P, T, e) := by
  refine fn_v rc125 hT ml125 rfl rfl rfl rfl ?_
  refine al0 c125_0 ?_
  refine r_gi g125_1 (by first | rfl | assumption) rfl ?_
  exact r_ri c125_4 rt125 rfl rfl
theorem s141 {a : Nat} (hT : T[a]? = some (8, 9)) : pm_Fn X d 141 1 [.ref a] (I, J, P, T, e) (.inl (some (.int (I a 6)))) (I, J, P, T, e) := by
  refine fn_v rc141 hT ml141 rfl rfl rfl rfl ?_
  refine al0 c141_0 ?_
  refine r_gi g141_1 (by first | rfl | assumption) rfl ?_
  exact r_ri c141_4 rt141 rfl rfl
theorem s146 {a : Nat} (hT : T[a]? = some (9, 7)) : pm_Fn X d 146 1 [.ref a] (I, J, P, T, e) (.inl (some (.int (I a 1)))) (I, J, P, T, e) := by
  refine fn_v rc146 hT ml146 rfl rfl rfl rfl ?_
  refine al0 c146_0 ?_
  refine r_gi g146_1 (by first | rfl | assumption) rfl ?_
  exact r_ri c146_4 rt146 rfl rfl
theorem s147 {a : Nat} (hT : T[a]? = some (9, 7)) : pm_Fn X d 147 1 [.ref a] (I, J, P, T, e) (.inl (some (.int (I a 2)))) (I, J, P, T, e) := by
  refine fn_v rc147 hT ml147 rfl rfl rfl rfl ?_
  refine al0 c147_0 ?_
  refine r_gi g147_1 (by first | rfl | assumption) rfl ?_
  exact r_ri c147_4 rt147 rfl rfl
theorem s148 {a : Nat} (hT : T[a]? = some (9, 7)) : pm_Fn X d 148 1 [.ref a] (I, J, P, T, e) (.inl (some (.int (I a 3)))) (I, J, P, T, e) := by
  refine fn_v rc148 hT ml148 rfl rfl rfl rfl ?_
  refine al0 c148_0 ?_
  refine r_gi g148_1 (by first | rfl | assumption) rfl ?_
  exact r_ri c148_4 rt148 rfl rfl
theorem s149 {a : Nat} (hT : T[a]? = some (9, 7)) : pm_Fn X d 149 1 [.ref a] (I, J, P, T, e) (.inl (some (.int (I a 4)))) (I, J, P, T, e) := by
  refine fn_v rc149 hT ml149 rfl rfl rfl rfl ?_
  refine al0 c149_0 ?_
  refine r_gi g149_1 (by first | rfl | assumption) rfl ?_
  exact r_ri c149_4 rt149 rfl rfl
theorem s151 {a : Nat} (hT : T[a]? = some (9, 7)) : pm_Fn X d 151 1 [.ref a] (I, J, P, T, e) (.inl (some (.int (I a 5)))) (I, J, P, T, e) := by
  refine fn_v rc151 hT ml151 rfl rfl rfl rfl ?_
  refine al0 c151_0 ?_
  refine r_gi g151_1 (by first | rfl | assumption) rfl ?_
  exact r_ri c151_4 rt151 rfl rfl
theorem s152 {a : Nat} (hT : T[a]? = some (9, 7)) : pm_Fn X d 152 1 [.ref a] (I, J, P, T, e) (.inl (some (.int (I a 6)))) (I, J, P, T, e) := by
  refine fn_v rc152 hT ml152 rfl rfl rfl rfl ?_
  refine al0 c152_0 ?_
  refine r_gi g152_1 (by first | rfl | assumption) rfl ?_
  exact r_ri c152_4 rt152 rfl rfl
theorem s155 {a : Nat} (hT : T[a]? = some (10, 3)) : pm_Fn X d 155 1 [.ref a] (I, J, P, T, e) (.inl (some (.int (I a 0)))) (I, J, P, T, e) := by
  refine fn_v rc155 hT ml155 rfl rfl rfl rfl ?_
  refine al0 c155_0 ?_
  refine r_gi g155_1 (by first | rfl | assumption) rfl ?_
  exact r_ri c155_4 rt155 rfl rfl
theorem s156 {a : Nat} (hT : T[a]? = some (10, 3)) : pm_Fn X d 156 1 [.ref a] (I, J, P, T, e) (.inl (some (.int (I a 1)))) (I, J, P, T, e) := by
  refine fn_v rc156 hT ml156 rfl rfl rfl rfl ?_
  refine al0 c156_0 ?_
  refine r_gi g156_1 (by first | rfl | assumption) rfl ?_
  exact r_ri c156_4 rt156 rfl rfl
theorem s157 {a : Nat} (hT : T[a]? = some (10, 3)) : pm_Fn X d 157 1 [.ref a] (I, J, P, T, e) (.inl (some (.int (I a 2)))) (I, J, P, T, e) := by
  refine fn_v rc157 hT ml157 rfl rfl rfl rfl ?_
  refine al0 c157_0 ?_
  refine r_gi g157_1 (by first | rfl | assumption) rfl ?_
  exact r_ri c157_4 rt157 rfl rfl
theorem s214 {a : Nat} (hT : T[a]? = some (12, 59)) : pm_Fn X d 214 1 [.ref a] (I, J, P, T, e) (.inl (some (.int (I a 0)))) (I, J, P, T, e) := by
  refine fn_v rc214 hT ml214 rfl rfl rfl rfl ?_
  refine al0 c214_0 ?_
  refine r_gi g214_1 (by first | rfl | assumption) rfl ?_
  exact r_ri c214_4 rt214 rfl rfl
theorem s79 {r : Nat} {i : Int32} (hr : pm_rgT P r) : pm_Fn X (d + 1) 79 1 [.ref r, .int i] (I, J, P, pm_T0, e) (.inl (some (.int (pm_at (I (r + 4)) 8 i)))) (I, J, P, pm_T0, e) := by
  obtain ⟨t0, ⟨t1, t2, t3, t4, t5, t6, t7⟩, u0, u1, u2, u3, u4, u5, u6⟩ := hr
  refine fn_v rc79 t0 ml79 rfl rfl rfl rfl ?_
  refine al0 c79_0 ?_
  refine r_gr g79_1 (by first | rfl | assumption) rfl (by first | exact hp _ _ _ rfl | assumption) ?_
  refine il1 c79_4 ?_
  refine cv2 q79_5 (s160 (by first | rfl | assumption) (by decide)) rfl ?_
  exact r_ri c79_8 rt79 rfl rfl
theorem s82 {r : Nat} {i : Int32} (hr : pm_rgT P r) : pm_Fn X (d + 1) 82 1 [.ref r, .int i] (I, J, P, pm_T0, e) (.inl (some (.int (pm_at (I (r + 1)) 8 i)))) (I, J, P, pm_T0, e) := by
  obtain ⟨t0, ⟨t1, t2, t3, t4, t5, t6, t7⟩, u0, u1, u2, u3, u4, u5, u6⟩ := hr
  refine fn_v rc82 t0 ml82 rfl rfl rfl rfl ?_
  refine al0 c82_0 ?_
  refine r_gr g82_1 (by first | rfl | assumption) rfl (by first | exact hp _ _ _ rfl | assumption) ?_
  refine il1 c82_4 ?_
  refine cv2 q82_5 (s160 (by first | rfl | assumption) (by decide)) rfl ?_
  exact r_ri c82_8 rt82 rfl rfl
theorem s83 {r : Nat} {i : Int32} (hr : pm_rgT P r) : pm_Fn X (d + 1) 83 1 [.ref r, .int i] (I, J, P, pm_T0, e) (.inl (some (.int (pm_at (I (r + 2)) 8 i)))) (I, J, P, pm_T0, e) := by
  obtain ⟨t0, ⟨t1, t2, t3, t4, t5, t6, t7⟩, u0, u1, u2, u3, u4, u5, u6⟩ := hr
  refine fn_v rc83 t0 ml83 rfl rfl rfl rfl ?_
  refine al0 c83_0 ?_
  refine r_gr g83_1 (by first | rfl | assumption) rfl (by first | exact hp _ _ _ rfl | assumption) ?_
  refine il1 c83_4 ?_
  refine cv2 q83_5 (s160 (by first | rfl | assumption) (by decide)) rfl ?_
  exact r_ri c83_8 rt83 rfl rfl
theorem s94 {r : Nat} {i : Int32} (hr : pm_rgT P r) : pm_Fn X (d + 1) 94 1 [.ref r, .int i] (I, J, P, pm_T0, e) (.inl (some (.int (pm_at (I (r + 7)) 5 i)))) (I, J, P, pm_T0, e) := by
  obtain ⟨t0, ⟨t1, t2, t3, t4, t5, t6, t7⟩, u0, u1, u2, u3, u4, u5, u6⟩ := hr
  refine fn_v rc94 t0 ml94 rfl rfl rfl rfl ?_
  refine al0 c94_0 ?_
  refine r_gr g94_1 (by first | rfl | assumption) rfl (by first | exact hp _ _ _ rfl | assumption) ?_
  refine il1 c94_4 ?_
  refine cv2 q94_5 (s160 (by first | rfl | assumption) (by decide)) rfl ?_
  exact r_ri c94_8 rt94 rfl rfl
theorem s96 {r : Nat} {i : Int32} (hr : pm_rgT P r) : pm_Fn X (d + 1) 96 1 [.ref r, .int i] (I, J, P, pm_T0, e) (.inl (some (.int (pm_at (I (r + 3)) 8 i)))) (I, J, P, pm_T0, e) := by
  obtain ⟨t0, ⟨t1, t2, t3, t4, t5, t6, t7⟩, u0, u1, u2, u3, u4, u5, u6⟩ := hr
  refine fn_v rc96 t0 ml96 rfl rfl rfl rfl ?_
  refine al0 c96_0 ?_
  refine r_gr g96_1 (by first | rfl | assumption) rfl (by first | exact hp _ _ _ rfl | assumption) ?_
  refine il1 c96_4 ?_
  refine cv2 q96_5 (s160 (by first | rfl | assumption) (by decide)) rfl ?_
  exact r_ri c96_8 rt96 rfl rfl
theorem s98 {r : Nat} {i : Int32} (hr : pm_rgT P r) : pm_Fn X (d + 1) 98 1 [.ref r, .int i] (I, J, P, pm_T0, e) (.inl (some (.int (pm_at (I (r + 5)) 5 i)))) (I, J, P, pm_T0, e) := by
  obtain ⟨t0, ⟨t1, t2, t3, t4, t5, t6, t7⟩, u0, u1, u2, u3, u4, u5, u6⟩ := hr
  refine fn_v rc98 t0 ml98 rfl rfl rfl rfl ?_
  refine al0 c98_0 ?_
  refine r_gr g98_1 (by first | rfl | assumption) rfl (by first | exact hp _ _ _ rfl | assumption) ?_
  refine il1 c98_4 ?_
  refine cv2 q98_5 (s160 (by first | rfl | assumption) (by decide)) rfl ?_
  exact r_ri c98_8 rt98 rfl rfl
theorem s99 {r : Nat} {i : Int32} (hr : pm_rgT P r) : pm_Fn X (d + 1) 99 1 [.ref r, .int i] (I, J, P, pm_T0, e) (.inl (some (.int (pm_at (I (r + 6)) 5 i)))) (I, J, P, pm_T0, e) := by
  obtain ⟨t0, ⟨t1, t2, t3, t4, t5, t6, t7⟩, u0, u1, u2, u3, u4, u5, u6⟩ := hr
  refine fn_v rc99 t0 ml99 rfl rfl rfl rfl ?_
  refine al0 c99_0 ?_
  refine r_gr g99_1 (by first | rfl | assumption) rfl (by first | exact hp _ _ _ rfl | assumption) ?_
  refine il1 c99_4 ?_
  refine cv2 q99_5 (s160 (by first | rfl | assumption) (by decide)) rfl ?_
  exact r_ri c99_8 rt99 rfl rfl
/-- a row of the state, by field and signer -/
def pm_sget (w : Nat → Int32) (f p : Int32) : Int32 := if 0 ≤ p.toInt ∧ p.toInt < 8 then pm_at w 66 (f * 8 + p) else 0
def pm_sset (I : Nat → Nat → Int32) (f p x : Int32) : Nat → Nat → Int32 := if 0 ≤ p.toInt ∧ p.toInt < 8 then pm_pw I 5 66 (f * 8 + p) x else I
theorem s106 {f p : Int32} (hp : P 4 0 = .ref 5) : pm_Fn X (d + 1) 106 1 [.ref 4, .int f, .int p] (I, J, P, pm_T0, e) (.inl (some (.int (pm_sget (I 5) f p)))) (I, J, P, pm_T0, e) := by
  have h8 : ((8 : Int32)).toInt = 8 := by decide
  refine fn_v (c := 6) (nf := 1) rc106 rfl ml106 rfl rfl rfl rfl ?_
  refine il2 c106_0 ?_
  refine r_iflt (t := 14) c106_1 rfl (fun h1_0 => ?_) (fun h1_0 => ?_)
  · refine r_ic c106_14 kI0 ?_
    refine is3 c106_15 rfl ?_
    refine il3 c106_16 ?_
    refine r_ifeq (t := 36) c106_17 rfl (fun h17_1 => ?_) (fun h17_1 => ?_)
    · refine r_ic c106_36 kI0 ?_
      exact r_ri c106_37 rt106 (by first | exact absurd rfl ‹¬ (0 : Int32) = 0› | exact absurd ‹(1 : Int32) = 0› (by decide) | unfold pm_sget; first | rw [if_pos (by omega)] | rw [if_neg (by omega)]) rfl
    · refine al0 c106_20 ?_
      refine r_gr g106_21 (by first | rfl | assumption) rfl (by first | exact hp _ _ _ rfl | assumption) ?_
      refine il1 c106_24 ?_
      refine r_bi c106_25 kB8 ?_
      refine r_imul c106_27 ?_
      refine il2 c106_28 ?_
      refine r_iadd c106_29 ?_
      refine cv2 q106_30 (s160 (by first | rfl | assumption) (by decide)) rfl ?_
      refine r_go (t := 37) c106_33 rfl ?_
      exact r_ri c106_37 rt106 (by first | exact absurd rfl ‹¬ (0 : Int32) = 0› | exact absurd ‹(1 : Int32) = 0› (by decide) | unfold pm_sget; first | rw [if_pos (by omega)] | rw [if_neg (by omega)]) rfl
  · refine il2 c106_4 ?_
    refine r_bi c106_5 kB8 ?_
    refine r_icge (t := 14) c106_7 rfl (fun h7_2 => ?_) (fun h7_2 => ?_)
    · refine r_ic c106_14 kI0 ?_
      refine is3 c106_15 rfl ?_
      refine il3 c106_16 ?_
      refine r_ifeq (t := 36) c106_17 rfl (fun h17_3 => ?_) (fun h17_3 => ?_)
      · refine r_ic c106_36 kI0 ?_
        exact r_ri c106_37 rt106 (by first | exact absurd rfl ‹¬ (0 : Int32) = 0› | exact absurd ‹(1 : Int32) = 0› (by decide) | unfold pm_sget; first | rw [if_pos (by omega)] | rw [if_neg (by omega)]) rfl
      · refine al0 c106_20 ?_
        refine r_gr g106_21 (by first | rfl | assumption) rfl (by first | exact hp _ _ _ rfl | assumption) ?_
        refine il1 c106_24 ?_
        refine r_bi c106_25 kB8 ?_
        refine r_imul c106_27 ?_
        refine il2 c106_28 ?_
        refine r_iadd c106_29 ?_
        refine cv2 q106_30 (s160 (by first | rfl | assumption) (by decide)) rfl ?_
        refine r_go (t := 37) c106_33 rfl ?_
        exact r_ri c106_37 rt106 (by first | exact absurd rfl ‹¬ (0 : Int32) = 0› | exact absurd ‹(1 : Int32) = 0› (by decide) | unfold pm_sget; first | rw [if_pos (by omega)] | rw [if_neg (by omega)]) rfl
    · refine r_ic c106_10 kI1 ?_
      refine r_go (t := 15) c106_11 rfl ?_
      refine is3 c106_15 rfl ?_
      refine il3 c106_16 ?_
      refine r_ifeq (t := 36) c106_17 rfl (fun h17_4 => ?_) (fun h17_4 => ?_)
      · refine r_ic c106_36 kI0 ?_
        exact r_ri c106_37 rt106 (by first | exact absurd rfl ‹¬ (0 : Int32) = 0› | exact absurd ‹(1 : Int32) = 0› (by decide) | unfold pm_sget; first | rw [if_pos (by omega)] | rw [if_neg (by omega)]) rfl
      · refine al0 c106_20 ?_
        refine r_gr g106_21 (by first | rfl | assumption) rfl (by first | exact hp _ _ _ rfl | assumption) ?_
        refine il1 c106_24 ?_
        refine r_bi c106_25 kB8 ?_
        refine r_imul c106_27 ?_
        refine il2 c106_28 ?_
        refine r_iadd c106_29 ?_
        refine cv2 q106_30 (s160 (by first | rfl | assumption) (by decide)) rfl ?_
        refine r_go (t := 37) c106_33 rfl ?_
        exact r_ri c106_37 rt106 (by first | exact absurd rfl ‹¬ (0 : Int32) = 0› | exact absurd ‹(1 : Int32) = 0› (by decide) | unfold pm_sget; first | rw [if_pos (by omega)] | rw [if_neg (by omega)]) rfl
theorem s102 {f p x : Int32} (hp : P 4 0 = .ref 5) : pm_Fn X (d + 1) 102 1 [.ref 4, .int f, .int p, .int x] (I, J, P, pm_T0, e) (.inl none) (pm_sset I f p x, J, P, pm_T0, e) := by
  have h8 : ((8 : Int32)).toInt = 8 := by decide
  refine fn_v (c := 6) (nf := 1) rc102 rfl ml102 rfl rfl rfl rfl ?_
  refine il2 c102_0 ?_
  refine r_iflt (t := 24) c102_1 rfl (fun h1_0 => ?_) (fun h1_0 => ?_)
  · exact r_rv c102_24 rt102 (by unfold pm_sset; first | rw [if_pos (by omega)] | rw [if_neg (by omega)])
  · refine il2 c102_4 ?_
    refine r_bi c102_5 kB8 ?_
    refine r_icge (t := 24) c102_7 rfl (fun h7_1 => ?_) (fun h7_1 => ?_)
    · exact r_rv c102_24 rt102 (by unfold pm_sset; first | rw [if_pos (by omega)] | rw [if_neg (by omega)])
    · refine al0 c102_10 ?_
      refine r_gr g102_11 (by first | rfl | assumption) rfl (by first | exact hp _ _ _ rfl | assumption) ?_
      refine il1 c102_14 ?_
      refine r_bi c102_15 kB8 ?_
      refine r_imul c102_17 ?_
      refine il2 c102_18 ?_
      refine r_iadd c102_19 ?_
      refine il3 c102_20 ?_
      refine cz3 q102_21 (t159 (by first | rfl | assumption) (by decide)) rfl ?_
      exact r_rv c102_24 rt102 (by unfold pm_sset; first | rw [if_pos (by omega)] | rw [if_neg (by omega)])
theorem s37 {r : Nat} (hP : P 3 6 = .ref r) : pm_Fn X d 37 1 [.ref 3] (I, J, P, pm_T0, e) (.inl (some (.ref r))) (I, J, P, pm_T0, e) := by
  refine fn_v (c := 3) (nf := 7) rc37 rfl ml37 rfl rfl rfl rfl ?_
  refine al0 c37_0 ?_
  refine r_gr g37_1 (by first | rfl | assumption) rfl (by first | exact hp _ _ _ rfl | assumption) ?_
  exact r_rr c37_4 rt37 rfl rfl
theorem s28 (hP : P 3 0 = .ref 4) : pm_Fn X d 28 1 [.ref 3] (I, J, P, pm_T0, e) (.inl (some (.ref 4))) (I, J, P, pm_T0, e) := by
  refine fn_v (c := 3) (nf := 7) rc28 rfl ml28 rfl rfl rfl rfl ?_
  refine al0 c28_0 ?_
  refine r_gr g28_1 (by first | rfl | assumption) rfl (by first | exact hp _ _ _ rfl | assumption) ?_
  exact r_rr c28_4 rt28 rfl rfl
end G
def pm_FU : Nat := 100000
theorem pm_bd_sp {α β : Type} {o : Option α} {k : α → Option β} {v : β} (h : o.bind k = some v) : ∃ q : α, o = some q ∧ k q = some v := by
  cases o with
  | none => cases h
  | some q => exact ⟨q, rfl, h⟩
theorem pm_bt {b : Bool} (h : ¬ pm_bi b = 0) : b = true := by cases b <;> first | rfl | exact absurd rfl h
theorem pm_bf {b : Bool} (h : pm_bi b = 0) : ¬ b = true := by cases b <;> first | decide | exact absurd h (by decide)

