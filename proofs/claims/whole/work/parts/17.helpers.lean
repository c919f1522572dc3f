/-! HELPERS -/
def pm_at (f : Nat → Int32) (len : Nat) (i : Int32) : Int32 := if 0 ≤ i.toInt ∧ i.toInt < len then f i.toNatClampNeg else 0
def pm_put (f : Nat → Int32) (len : Nat) (i x : Int32) : Nat → Int32 := if 0 ≤ i.toInt ∧ i.toInt < len then upd f i.toNatClampNeg x else f
def pm_max (x y : Int32) : Int32 := if x.toInt < y.toInt then y else x
def pm_min (x y : Int32) : Int32 := if y.toInt < x.toInt then y else x
theorem pm_at_nI {f : Nat → Int32} {len k : Nat} (h : k < len) (hl : len < 2 ^ 31) : pm_at f len (nI k) = f k := by
  unfold pm_at
  rw [nI_toInt (by omega), if_pos (by omega), nI_clamp (by omega)]
theorem pm_put_nI {f : Nat → Int32} {len k : Nat} {x : Int32} (h : k < len) (hl : len < 2 ^ 31) : pm_put f len (nI k) x = upd f k x := by
  unfold pm_put
  rw [nI_toInt (by omega), if_pos (by omega), nI_clamp (by omega)]
theorem va_same {α : Type} (f : Nat → α) (a : Nat) : va_up f a (f a) = f := by
  funext j
  unfold va_up
  split
  · rename_i h; rw [h]
  · rfl
section H
variable {X : (Nat → Int32) × Nat} {d : Nat} {I : Nat → Nat → Int32} {J : Nat → Nat → Int64} {P : Nat → Nat → Value} {T : List (Nat × Nat)} {e : Nat} {μ : pm_M}
theorem s160 {a len : Nat} {i : Int32} (hT : T[a]? = some (20, len)) (hl : len < 2 ^ 31) : pm_Fn X d 160 0 [.ref a, .int i] (I, J, P, T, e) (.inl (some (.int (pm_at (I a) len i)))) (I, J, P, T, e) := by
  refine fn_s ml160 rfl rfl rfl ?_
  have hn := nI_toInt hl
  refine il1 c160_0 ?_
  refine r_iflt (t := 16) c160_1 rfl (fun h1_0 => ?_) (fun h1_0 => ?_)
  · refine r_ic c160_16 kI0 ?_
    exact r_ri c160_17 rt160 (by unfold pm_at; first | rw [if_pos (by omega)] | rw [if_neg (by omega)]) rfl
  · refine il1 c160_4 ?_
    refine al0 c160_5 ?_
    refine r_len c160_6 (by first | rfl | assumption) rfl ?_
    refine r_icge (t := 16) c160_7 rfl (fun h7_1 => ?_) (fun h7_1 => ?_)
    · refine r_ic c160_16 kI0 ?_
      exact r_ri c160_17 rt160 (by unfold pm_at; first | rw [if_pos (by omega)] | rw [if_neg (by omega)]) rfl
    · refine al0 c160_10 ?_
      refine il1 c160_11 ?_
      refine r_ia c160_12 (by first | rfl | assumption) (by first | assumption | omega) (by first | assumption | omega) ?_
      refine r_go (t := 17) c160_13 rfl ?_
      exact r_ri c160_17 rt160 (by unfold pm_at; first | rw [if_pos (by omega)] | rw [if_neg (by omega)]) rfl
theorem s159 {a len : Nat} {i x : Int32} (hT : T[a]? = some (20, len)) (hl : len < 2 ^ 31) : pm_Fn X d 159 0 [.ref a, .int i, .int x] (I, J, P, T, e) (.inl none) (va_up I a (pm_put (I a) len i x), J, P, T, e) := by
  refine fn_s ml159 rfl rfl rfl ?_
  have hn := nI_toInt hl
  refine il1 c159_0 ?_
  refine r_iflt (t := 14) c159_1 rfl (fun h1_0 => ?_) (fun h1_0 => ?_)
  · exact r_rv c159_14 rt159 (by unfold pm_put; first | rw [if_pos (by omega)] | rw [if_neg (by omega), va_same])
  · refine il1 c159_4 ?_
    refine al0 c159_5 ?_
    refine r_len c159_6 (by first | rfl | assumption) rfl ?_
    refine r_icge (t := 14) c159_7 rfl (fun h7_1 => ?_) (fun h7_1 => ?_)
    · exact r_rv c159_14 rt159 (by unfold pm_put; first | rw [if_pos (by omega)] | rw [if_neg (by omega), va_same])
    · refine al0 c159_10 ?_
      refine il1 c159_11 ?_
      refine il2 c159_12 ?_
      refine r_ist c159_13 (by first | rfl | assumption) (by first | assumption | omega) (by first | assumption | omega) ?_
      exact r_rv c159_14 rt159 (by unfold pm_put; first | rw [if_pos (by omega)] | rw [if_neg (by omega), va_same])
theorem s362 {x y : Int32} : pm_Fn X d 362 0 [.int x, .int y] μ (.inl (some (.int (pm_max x y)))) μ := by
  refine fn_s ml362 rfl rfl rfl ?_
  refine il0 c362_0 ?_
  refine il1 c362_1 ?_
  refine r_iclt (t := 9) c362_2 rfl (fun h2_0 => ?_) (fun h2_0 => ?_)
  · refine il1 c362_9 ?_
    exact r_ri c362_10 rt362 (by unfold pm_max; first | rw [if_pos (by omega)] | rw [if_neg (by omega)]) rfl
  · refine il0 c362_5 ?_
    refine r_go (t := 10) c362_6 rfl ?_
    exact r_ri c362_10 rt362 (by unfold pm_max; first | rw [if_pos (by omega)] | rw [if_neg (by omega)]) rfl
theorem s363 {x y : Int32} : pm_Fn X d 363 0 [.int x, .int y] μ (.inl (some (.int (pm_min x y)))) μ := by
  refine fn_s ml363 rfl rfl rfl ?_
  refine il0 c363_0 ?_
  refine il1 c363_1 ?_
  refine r_icgt (t := 9) c363_2 rfl (fun h2_0 => ?_) (fun h2_0 => ?_)
  · refine il1 c363_9 ?_
    exact r_ri c363_10 rt363 (by unfold pm_min; first | rw [if_pos (by omega)] | rw [if_neg (by omega)]) rfl
  · refine il0 c363_5 ?_
    refine r_go (t := 10) c363_6 rfl ?_
    exact r_ri c363_10 rt363 (by unfold pm_min; first | rw [if_pos (by omega)] | rw [if_neg (by omega)]) rfl
end H
