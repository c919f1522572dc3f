/-! STRINGS, SWITCHES -/
def pm_okS (a : Nat) : Bool := decide (2 ≤ a) && decide (a % 2 = 0) && decide (a < 2 + 2 * pm_tx.length)
theorem pm_okS_sp {a : Nat} (h : pm_okS a = true) : 2 ≤ a ∧ a % 2 = 0 ∧ a < 2 + 2 * pm_tx.length := by
  unfold pm_okS at h
  simp only [Bool.and_eq_true, decide_eq_true_eq] at h
  exact ⟨h.1.1, h.1.2, h.2⟩
def pm_txt (a : Nat) : List Nat := pm_tx.getD ((a - 2) / 2) []
def pm_tl (a : Nat) : Nat := (pm_txt a).length
def pm_tc (a j : Nat) : Nat := (pm_txt a).getD j 0
theorem pm_tx_at {a : Nat} (h : pm_okS a = true) : pm_tx[(a + 1 - 3) / 2]? = some (pm_txt a) := by
  obtain ⟨h1, h2, h3⟩ := pm_okS_sp h
  have e : (a + 1 - 3) / 2 = (a - 2) / 2 := by omega
  have hl : (a - 2) / 2 < pm_tx.length := by omega
  unfold pm_txt
  rw [e, List.getD_eq_getElem?_getD, List.getElem?_eq_getElem hl]
  rfl
theorem pm_tl_le : ∀ t ∈ pm_tx, t.length < 100 := by decide +kernel
theorem pm_tc_lt : ∀ t ∈ pm_tx, ∀ c ∈ t, c < 256 := by decide +kernel
theorem pm_tl_lt (a : Nat) : pm_tl a < 100 := by
  unfold pm_tl pm_txt
  rw [List.getD_eq_getElem?_getD]
  cases h : pm_tx[(a - 2) / 2]? with
  | none => decide
  | some t => exact pm_tl_le t (List.mem_of_getElem? h)
theorem pm_tc_lt' (a j : Nat) : pm_tc a j < 256 := by
  unfold pm_tc
  rw [List.getD_eq_getElem?_getD]
  cases h : (pm_txt a)[j]? with
  | none => decide
  | some c =>
    have hc := List.mem_of_getElem? h
    unfold pm_txt at hc
    rw [List.getD_eq_getElem?_getD] at hc
    cases ht : pm_tx[(a - 2) / 2]? with
    | none => rw [ht] at hc; cases hc
    | some t =>
      rw [ht] at hc
      exact pm_tc_lt t (List.mem_of_getElem? ht) c hc
theorem pm_chr : ∀ c : Nat, c < 256 → ((nI c &&& 255).toUInt32 % 65536).toInt32 = nI c := by decide +kernel
theorem pm_inof {j : Int32} {len : Nat} (h0 : 0 ≤ j.toInt) (h1 : j.toInt < (len : Int)) : pm_in j len = true := by
  unfold pm_in
  simp only [Bool.and_eq_true, decide_eq_true_eq]
  exact ⟨h0, h1⟩
section St
variable {X : (Nat → Int32) × Nat} {d m pc n : Nat} {L S : List Value} {μ ν : pm_M} {rr : pm_R} {a : Nat}
theorem g_str (h : pm_code m pc = some (.getfield 9, n)) (hk : pm_k m = 16) (ha : pm_okS a = true) (k : pm_Fx X d m n L (.retAddr (a + 1) :: S) μ rr ν) : pm_Fx X d m pc L (.retAddr a :: S) μ rr ν := by
  obtain ⟨h1, h2, h3⟩ := pm_okS_sp ha
  exact fx_step h (by simp [pm_step, pm_gf, hk, h1, h2, h3]) k
theorem g_cod (h : pm_code m pc = some (.getfield 15, n)) (hk : pm_k m = 16) (ha : pm_okS a = true) (k : pm_Fx X d m n L (.int 0 :: S) μ rr ν) : pm_Fx X d m pc L (.retAddr a :: S) μ rr ν := by
  obtain ⟨h1, h2, h3⟩ := pm_okS_sp ha
  exact fx_step h (by simp [pm_step, pm_gf, hk, h1, h2, h3]) k
theorem g_s38 (h : pm_code m pc = some (.getstatic 38, n)) (hk : pm_k m = 16) (k : pm_Fx X d m n L (.int 1 :: S) μ rr ν) : pm_Fx X d m pc L S μ rr ν :=
  fx_step h (by simp [pm_step, pm_gs, hk]) k
theorem g_sfo (h : pm_code m pc = some (.getstatic 1053, n)) (hk : pm_k m = 16) (k : pm_Fx X d m n L (.retAddr 1 :: S) μ rr ν) : pm_Fx X d m pc L S μ rr ν :=
  fx_step h (by simp [pm_step, pm_gs, hk]) k
theorem g_len (h : pm_code m pc = some (.arraylength, n)) (ha : pm_okS a = true) (k : pm_Fx X d m n L (.int (nI (pm_tl a)) :: S) μ rr ν) : pm_Fx X d m pc L (.retAddr (a + 1) :: S) μ rr ν := by
  obtain ⟨h1, h2, h3⟩ := pm_okS_sp ha
  have ht := pm_tx_at ha
  have h4 : 3 ≤ a + 1 ∧ (a + 1) % 2 = 1 := by omega
  refine fx_step h ?_ k
  simp only [pm_step, pm_al, ht, h4, and_self, if_true]
  rfl
theorem g_bal {j : Int32} (h : pm_code m pc = some (.baload, n)) (ha : pm_okS a = true) (hj : pm_in j (pm_tl a) = true) (k : pm_Fx X d m n L (.int (nI (pm_tc a j.toNatClampNeg)) :: S) μ rr ν) : pm_Fx X d m pc L (.int j :: .retAddr (a + 1) :: S) μ rr ν := by
  obtain ⟨h1, h2, h3⟩ := pm_okS_sp ha
  obtain ⟨j1, j2⟩ := pm_in_sp hj
  have ht := pm_tx_at ha
  have h4 : 3 ≤ a + 1 ∧ (a + 1) % 2 = 1 := by omega
  have j3 : j.toInt < ((pm_txt a).length : Int) := j2
  refine fx_step h ?_ k
  simp only [pm_step, pm_ba, ht, h4, j1, j3, and_self, if_true]
  rfl
theorem s367 {s : Nat} (ha : pm_okS (s + 2) = true) : pm_Fn X d 367 1 [.retAddr (s + 2)] μ (.inl (some (.int 0))) μ := by
  refine fn_t k367 ha ml367 rfl rfl rfl ?_
  refine g_s38 c367_0 k367 ?_
  refine r_ifeq (t := 13) c367_3 rfl (fun hb => absurd hb (by decide)) (fun _ => ?_)
  refine at0 c367_6 ?_
  refine g_cod c367_7 k367 ha ?_
  refine r_go (t := 14) c367_10 rfl ?_
  exact r_rb c367_14 rt367 rfl rfl rfl
theorem s369 {s : Nat} (ha : pm_okS (s + 2) = true) : pm_Fn X d 369 1 [.retAddr (s + 2)] μ (.inl (some (.int 1))) μ := by
  refine fn_t k369 ha ml369 rfl rfl rfl ?_
  refine g_s38 c369_0 k369 ?_
  refine r_ifeq (t := 17) c369_3 rfl (fun hb => absurd hb (by decide)) (fun _ => ?_)
  refine at0 c369_6 ?_
  refine g_cod c369_7 k369 ha ?_
  refine r_ifne (t := 17) c369_10 rfl (fun hb => absurd rfl hb) (fun _ => ?_)
  refine r_ic c369_13 kI1 ?_
  refine r_go (t := 18) c369_14 rfl ?_
  exact r_rz c369_18 rt369 (by decide) rfl rfl
theorem s366 {s : Nat} (ha : pm_okS (s + 2) = true) : pm_Fn X (d + 1) 366 1 [.retAddr (s + 2)] μ (.inl (some (.int (nI (pm_tl (s + 2)))))) μ := by
  refine fn_t k366 ha ml366 rfl rfl rfl ?_
  refine at0 c366_0 ?_
  refine g_str c366_1 k366 ha ?_
  refine g_len c366_4 ha ?_
  refine at0 c366_5 ?_
  refine cv1 q366_6 (s367 ha) rfl ?_
  refine r_ishr c366_9 ?_
  refine r_ri c366_10 rt366 ?_ rfl
  exact sc_shr0 (by have := pm_tl_lt (s + 2); omega)
theorem s372 {i l : Int32} (h0 : 0 ≤ i.toInt) (h1 : i.toInt < l.toInt) : pm_Fn X d 372 0 [.int i, .int l, .retAddr 1] μ (.inl (some (.int i))) μ := by
  refine fn_s ml372 rfl rfl rfl ?_
  refine il0 c372_0 ?_
  refine r_iflt (t := 9) c372_1 rfl (fun hb => absurd hb (by omega)) (fun _ => ?_)
  refine il0 c372_4 ?_
  refine il1 c372_5 ?_
  refine r_iclt (t := 16) c372_6 rfl (fun _ => ?_) (fun hb => absurd hb (by omega))
  refine il0 c372_16 ?_
  exact r_ri c372_17 rt372 rfl rfl
theorem s371 {i l : Int32} (h0 : 0 ≤ i.toInt) (h1 : i.toInt < l.toInt) : pm_Fn X (d + 1) 371 0 [.int i, .int l] μ (.inl none) μ := by
  refine fn_s ml371 rfl rfl rfl ?_
  refine il0 c371_0 ?_
  refine il1 c371_1 ?_
  refine g_sfo c371_2 k371 ?_
  refine cv3 q371_5 (s372 h0 h1) rfl ?_
  refine r_pp c371_8 ?_
  exact r_rv c371_9 rt371 rfl
theorem s370 {s : Nat} {i : Int32} (ha : pm_okS (s + 2) = true) (hj : pm_in i (pm_tl (s + 2)) = true) : pm_Fn X (d + 2) 370 0 [.retAddr (s + 2 + 1), .int i] μ (.inl (some (.int (nI (pm_tc (s + 2) i.toNatClampNeg))))) μ := by
  obtain ⟨j1, j2⟩ := pm_in_sp hj
  have hl := pm_tl_lt (s + 2)
  have hc := pm_tc_lt' (s + 2) i.toNatClampNeg
  have e1 := pm_chr _ hc
  refine fn_s (L := [.retAddr (s + 1 + 2), .int i]) ml370 rfl rfl rfl ?_
  refine il1 c370_0 ?_
  refine at0 c370_1 ?_
  refine g_len c370_2 ha ?_
  refine cz2 q370_3 (s371 j1 (by rw [nI_toInt (by omega)]; exact j2)) rfl ?_
  refine at0 c370_6 ?_
  refine il1 c370_7 ?_
  refine g_bal c370_8 ha hj ?_
  refine r_si c370_9 kS255 ?_
  refine r_iand c370_12 ?_
  refine r_i2c c370_13 ?_
  exact r_rch c370_14 rt370 (by rw [e1, nI_toInt (by omega)]; omega) (by rw [e1, nI_toInt (by omega)]; omega) e1 rfl
theorem s368 {s : Nat} {i : Int32} (ha : pm_okS (s + 2) = true) (hj : pm_in i (pm_tl (s + 2)) = true) : pm_Fn X (d + 3) 368 1 [.retAddr (s + 2), .int i] μ (.inl (some (.int (nI (pm_tc (s + 2) i.toNatClampNeg))))) μ := by
  have hc := pm_tc_lt' (s + 2) i.toNatClampNeg
  refine fn_t k368 ha ml368 rfl rfl rfl ?_
  refine at0 c368_0 ?_
  refine cv1 q368_1 (s369 ha) rfl ?_
  refine r_ifeq (t := 16) c368_4 rfl (fun hb => absurd hb (by decide)) (fun _ => ?_)
  refine at0 c368_7 ?_
  refine g_str c368_8 k368 ha ?_
  refine il1 c368_11 ?_
  refine cv2 q368_12 (s370 ha hj) rfl ?_
  exact r_rch c368_15 rt368 (by rw [nI_toInt (by omega)]; omega) (by rw [nI_toInt (by omega)]; omega) rfl rfl
end St
theorem pm_tsd {dd lo hi : Int} {offs : Array Int} (x : Int32) (vs : List Int32) (hc : (List.range (hi - lo + 1).toNat).all (fun j => vs.any (fun v => decide (v.toInt = lo + (j : Int)))) = true) (hne : ∀ v ∈ vs, ¬ x = v) : pm_tsw dd lo hi offs x = some dd := by
  unfold pm_tsw
  split
  · rfl
  · rename_i h
    exfalso
    have hj : (x.toInt - lo).toNat ∈ List.range (hi - lo + 1).toNat := by
      rw [List.mem_range]
      omega
    have h1 := List.all_eq_true.mp hc _ hj
    obtain ⟨v, hv, h2⟩ := List.any_eq_true.mp h1
    have h3 := of_decide_eq_true h2
    refine hne v hv (Int32.toInt_inj.mp ?_)
    omega
theorem pm_lkd {dd : Int} {ps : List (Int × Int)} (x : Int32) (vs : List Int32) (hc : ps.all (fun p => vs.any (fun v => decide (v.toInt = p.1))) = true) (hne : ∀ v ∈ vs, ¬ x = v) : Op.lookupswitch.offset ps dd x.toInt = dd := by
  induction ps with
  | nil => rfl
  | cons p t ih =>
    rw [List.all_cons, Bool.and_eq_true] at hc
    obtain ⟨a, o⟩ := p
    show (if a = x.toInt then o else Op.lookupswitch.offset t dd x.toInt) = dd
    rw [if_neg, ih hc.2]
    intro ha
    obtain ⟨v, hv, h2⟩ := List.any_eq_true.mp hc.1
    have h3 := of_decide_eq_true h2
    exact hne v hv (Int32.toInt_inj.mp (ha.symm.trans h3.symm))
def pm_cpw (I : Nat → Nat → Int32) (a b n : Nat) : Nat → Nat → Int32 := va_up I b (va_cpy (I a) (I b) 0 0 n)
theorem pm_min_nI {a b : Nat} (ha : a < 2 ^ 31) (hb : b < 2 ^ 31) : pm_min (nI a) (nI b) = nI (min a b) := by
  unfold pm_min
  rw [nI_toInt ha, nI_toInt hb]
  split
  · rename_i h; rw [Nat.min_eq_right (by omega)]
  · rename_i h; rw [Nat.min_eq_left (by omega)]
theorem s164 {X : (Nat → Int32) × Nat} {d : Nat} {I : Nat → Nat → Int32} {J : Nat → Nat → Int64} {P : Nat → Nat → Value} {T : List (Nat × Nat)} {e a b la lb : Nat} (ha : T[a]? = some (20, la)) (hb : T[b]? = some (20, lb)) (hla : la < 2 ^ 31) (hlb : lb < 2 ^ 31) : pm_Fn X (d + 1) 164 0 [.ref a, .ref b] (I, J, P, T, e) (.inl none) (pm_cpw I a b (min la lb), J, P, T, e) := by
  have e0 : ((0 : Int32)).toInt = 0 := by decide
  have e1 : ((0 : Int32)).toNatClampNeg = 0 := by decide
  have hm : min la lb < 2 ^ 31 := by omega
  have e2 := nI_toInt hm
  have e3 := nI_clamp hm
  refine fn_s ml164 rfl rfl rfl ?_
  refine al0 c164_0 ?_
  refine r_ic c164_1 kI0 ?_
  refine al1 c164_2 ?_
  refine r_ic c164_3 kI0 ?_
  refine al0 c164_4 ?_
  refine r_len c164_5 ha rfl ?_
  refine al1 c164_6 ?_
  refine r_len c164_7 hb rfl ?_
  refine cv2 q164_8 s363 rfl ?_
  rw [pm_min_nI hla hlb]
  refine r_cpy c164_11 k164 rfl ha hb rfl (by rw [e0]; decide) (by rw [e0]; decide) (by rw [e2]; omega) (by rw [e1, e3]; omega) (by rw [e1, e3]; omega) ?_
  refine r_rv c164_14 rt164 ?_
  rw [e1, e3]
  rfl
theorem w_aa {X : (Nat → Int32) × Nat} {d m pc n : Nat} {L S : List Value} {ν : pm_M} {rr : pm_R} {I : Nat → Nat → Int32} {J : Nat → Nat → Int64} {P : Nat → Nat → Value} {T : List (Nat × Nat)} {e a b len : Nat} {j : Int32} (h : pm_code m pc = some (.aaload, n)) (hT : T[a]? = some (23, len)) (hj : pm_in j len = true) (hP : P a j.toNatClampNeg = .ref b) (k : pm_Fx X d m n L (.ref b :: S) (I, J, P, T, e) rr ν) : pm_Fx X d m pc L (.int j :: .ref a :: S) (I, J, P, T, e) rr ν := r_aa h hT (pm_in_sp hj).1 (pm_in_sp hj).2 hP k
theorem pm_in_clamp {j : Int32} {len : Nat} (h : pm_in j len = true) : j.toNatClampNeg < len := by
  obtain ⟨h1, h2⟩ := pm_in_sp h
  unfold Int32.toNatClampNeg
  omega
theorem pm_row24 : ∀ j : Nat, j < 16 → pm_sp 24 j = .ref (25 + j) ∧ pm_T0[25 + j]? = some (20, 66) := by decide +kernel
theorem pm_row41 : ∀ j : Nat, j < 51 → pm_sp 41 j = .ref (42 + j) ∧ pm_T0[42 + j]? = some (20, 66) := by decide +kernel
theorem pm_lw33 {P : Nat → Nat → Value} {x : Int32} (h1 : pm_lwT P 6) (h2 : pm_lwT P 9) : pm_lwT P (if x = 0 then 6 else 9) := by
  split
  · exact h1
  · exact h2
theorem tw174 : pm_tw 174 14 = some (2, 364, 366, 368) := by decide +kernel
theorem tw180 : pm_tw 180 24 = some (1, 374, 376, 378) := by decide +kernel
theorem tw182 : pm_tw 182 24 = some (1, 374, 382, 378) := by decide +kernel
/-- a call that may throw, ahead of the rest -/
def pm_xb {α β : Type} (o : Option ((α ⊕ Nat) × (Nat → Nat → Int32) × (Nat → Nat → Int64))) (k : α → (Nat → Nat → Int32) → (Nat → Nat → Int64) → Option ((β ⊕ Nat) × (Nat → Nat → Int32) × (Nat → Nat → Int64))) : Option ((β ⊕ Nat) × (Nat → Nat → Int32) × (Nat → Nat → Int64)) := match o with
  | some (.inl v, I, J) => k v I J
  | some (.inr t, I, J) => some (.inr t, I, J)
  | none => none
theorem pm_xb_sp {α β : Type} {o : Option ((α ⊕ Nat) × (Nat → Nat → Int32) × (Nat → Nat → Int64))} {k : α → (Nat → Nat → Int32) → (Nat → Nat → Int64) → Option ((β ⊕ Nat) × (Nat → Nat → Int32) × (Nat → Nat → Int64))} {q : (β ⊕ Nat) × (Nat → Nat → Int32) × (Nat → Nat → Int64)} (h : pm_xb o k = some q) :
    (∃ (t : Nat) (I : Nat → Nat → Int32) (J : Nat → Nat → Int64), o = some (.inr t, I, J) ∧ (.inr t, I, J) = q) ∨ ∃ (v : α) (I : Nat → Nat → Int32) (J : Nat → Nat → Int64), o = some (.inl v, I, J) ∧ k v I J = some q := by
  cases o with
  | none => cases h
  | some p =>
    obtain ⟨s, I, J⟩ := p
    cases s with
    | inl v => exact Or.inr ⟨v, I, J, rfl, h⟩
    | inr t => exact Or.inl ⟨t, I, J, rfl, Option.some.inj h⟩
def pm_sI (s : Int32 ⊕ Nat) : pm_R := match s with | .inl v => .inl (some (.int v)) | .inr t => .inr t
def pm_sZ (s : Bool ⊕ Nat) : pm_R := match s with | .inl v => .inl (some (.int (pm_bi v))) | .inr t => .inr t
def pm_sJ (s : Int64 ⊕ Nat) : pm_R := match s with | .inl v => .inl (some (.long v)) | .inr t => .inr t
def pm_sV (s : Unit ⊕ Nat) : pm_R := match s with | .inl _ => .inl none | .inr t => .inr t
def pm_sE {α : Type} (s : α ⊕ Nat) (e : Nat) : Nat := match s with | .inl _ => e | .inr _ => e + 1
/-- what is left of a local when the next one is written -/
def pm_cz (v : Value) : Value := match v with | .long _ => pm_jk | w => w
section Cz
variable {X : (Nat → Int32) × Nat} {d m pc n : Nat} {S : List Value} {μ ν : pm_M} {r : pm_R}
theorem is1c {x0 : Value} {y : Value} {x : Int32} {l : List Value} (h : pm_code m pc = some (.istore_n 1, n)) (k : pm_Fx X d m n (pm_cz x0 :: .int x :: l) S μ r ν) : pm_Fx X d m pc (x0 :: y :: l) (.int x :: S) μ r ν := by
  refine fx_step h ?_ k
  cases x0 <;> rfl
theorem rs1c {x0 : Value} {y : Value} {x : Nat} {l : List Value} (h : pm_code m pc = some (.astore_n 1, n)) (k : pm_Fx X d m n (pm_cz x0 :: .ref x :: l) S μ r ν) : pm_Fx X d m pc (x0 :: y :: l) (.ref x :: S) μ r ν := by
  refine fx_step h ?_ k
  cases x0 <;> rfl
theorem ls1c {x0 : Value} {y z : Value} {x : Int64} {l : List Value} (h : pm_code m pc = some (.lstore_n 1, n)) (k : pm_Fx X d m n (pm_cz x0 :: .long x :: pm_jk :: l) S μ r ν) : pm_Fx X d m pc (x0 :: y :: z :: l) (.long x :: S) μ r ν := by
  refine fx_step h ?_ k
  cases x0 <;> rfl
theorem ii1c {x0 : Value} {x y : Int32} {c : Int} {l : List Value} (h : pm_code m pc = some (.iinc 1 c, n)) (hy : Int32.ofInt c = y) (k : pm_Fx X d m n (pm_cz x0 :: .int (x + y) :: l) S μ r ν) : pm_Fx X d m pc (x0 :: .int x :: l) S μ r ν := by
  subst hy
  refine fx_step h ?_ k
  cases x0 <;> rfl
theorem is2c {x0 x1 : Value} {y : Value} {x : Int32} {l : List Value} (h : pm_code m pc = some (.istore_n 2, n)) (k : pm_Fx X d m n (x0 :: pm_cz x1 :: .int x :: l) S μ r ν) : pm_Fx X d m pc (x0 :: x1 :: y :: l) (.int x :: S) μ r ν := by
  refine fx_step h ?_ k
  cases x1 <;> rfl
theorem rs2c {x0 x1 : Value} {y : Value} {x : Nat} {l : List Value} (h : pm_code m pc = some (.astore_n 2, n)) (k : pm_Fx X d m n (x0 :: pm_cz x1 :: .ref x :: l) S μ r ν) : pm_Fx X d m pc (x0 :: x1 :: y :: l) (.ref x :: S) μ r ν := by
  refine fx_step h ?_ k
  cases x1 <;> rfl
theorem ls2c {x0 x1 : Value} {y z : Value} {x : Int64} {l : List Value} (h : pm_code m pc = some (.lstore_n 2, n)) (k : pm_Fx X d m n (x0 :: pm_cz x1 :: .long x :: pm_jk :: l) S μ r ν) : pm_Fx X d m pc (x0 :: x1 :: y :: z :: l) (.long x :: S) μ r ν := by
  refine fx_step h ?_ k
  cases x1 <;> rfl
theorem ii2c {x0 x1 : Value} {x y : Int32} {c : Int} {l : List Value} (h : pm_code m pc = some (.iinc 2 c, n)) (hy : Int32.ofInt c = y) (k : pm_Fx X d m n (x0 :: pm_cz x1 :: .int (x + y) :: l) S μ r ν) : pm_Fx X d m pc (x0 :: x1 :: .int x :: l) S μ r ν := by
  subst hy
  refine fx_step h ?_ k
  cases x1 <;> rfl
theorem is3c {x0 x1 x2 : Value} {y : Value} {x : Int32} {l : List Value} (h : pm_code m pc = some (.istore_n 3, n)) (k : pm_Fx X d m n (x0 :: x1 :: pm_cz x2 :: .int x :: l) S μ r ν) : pm_Fx X d m pc (x0 :: x1 :: x2 :: y :: l) (.int x :: S) μ r ν := by
  refine fx_step h ?_ k
  cases x2 <;> rfl
theorem rs3c {x0 x1 x2 : Value} {y : Value} {x : Nat} {l : List Value} (h : pm_code m pc = some (.astore_n 3, n)) (k : pm_Fx X d m n (x0 :: x1 :: pm_cz x2 :: .ref x :: l) S μ r ν) : pm_Fx X d m pc (x0 :: x1 :: x2 :: y :: l) (.ref x :: S) μ r ν := by
  refine fx_step h ?_ k
  cases x2 <;> rfl
theorem ls3c {x0 x1 x2 : Value} {y z : Value} {x : Int64} {l : List Value} (h : pm_code m pc = some (.lstore_n 3, n)) (k : pm_Fx X d m n (x0 :: x1 :: pm_cz x2 :: .long x :: pm_jk :: l) S μ r ν) : pm_Fx X d m pc (x0 :: x1 :: x2 :: y :: z :: l) (.long x :: S) μ r ν := by
  refine fx_step h ?_ k
  cases x2 <;> rfl
theorem ii3c {x0 x1 x2 : Value} {x y : Int32} {c : Int} {l : List Value} (h : pm_code m pc = some (.iinc 3 c, n)) (hy : Int32.ofInt c = y) (k : pm_Fx X d m n (x0 :: x1 :: pm_cz x2 :: .int (x + y) :: l) S μ r ν) : pm_Fx X d m pc (x0 :: x1 :: x2 :: .int x :: l) S μ r ν := by
  subst hy
  refine fx_step h ?_ k
  cases x2 <;> rfl
theorem is4c {x0 x1 x2 x3 : Value} {y : Value} {x : Int32} {l : List Value} (h : pm_code m pc = some (.istore 4, n)) (k : pm_Fx X d m n (x0 :: x1 :: x2 :: pm_cz x3 :: .int x :: l) S μ r ν) : pm_Fx X d m pc (x0 :: x1 :: x2 :: x3 :: y :: l) (.int x :: S) μ r ν := by
  refine fx_step h ?_ k
  cases x3 <;> rfl
theorem rs4c {x0 x1 x2 x3 : Value} {y : Value} {x : Nat} {l : List Value} (h : pm_code m pc = some (.astore 4, n)) (k : pm_Fx X d m n (x0 :: x1 :: x2 :: pm_cz x3 :: .ref x :: l) S μ r ν) : pm_Fx X d m pc (x0 :: x1 :: x2 :: x3 :: y :: l) (.ref x :: S) μ r ν := by
  refine fx_step h ?_ k
  cases x3 <;> rfl
theorem ls4c {x0 x1 x2 x3 : Value} {y z : Value} {x : Int64} {l : List Value} (h : pm_code m pc = some (.lstore 4, n)) (k : pm_Fx X d m n (x0 :: x1 :: x2 :: pm_cz x3 :: .long x :: pm_jk :: l) S μ r ν) : pm_Fx X d m pc (x0 :: x1 :: x2 :: x3 :: y :: z :: l) (.long x :: S) μ r ν := by
  refine fx_step h ?_ k
  cases x3 <;> rfl
theorem ii4c {x0 x1 x2 x3 : Value} {x y : Int32} {c : Int} {l : List Value} (h : pm_code m pc = some (.iinc 4 c, n)) (hy : Int32.ofInt c = y) (k : pm_Fx X d m n (x0 :: x1 :: x2 :: pm_cz x3 :: .int (x + y) :: l) S μ r ν) : pm_Fx X d m pc (x0 :: x1 :: x2 :: x3 :: .int x :: l) S μ r ν := by
  subst hy
  refine fx_step h ?_ k
  cases x3 <;> rfl
theorem is5c {x0 x1 x2 x3 x4 : Value} {y : Value} {x : Int32} {l : List Value} (h : pm_code m pc = some (.istore 5, n)) (k : pm_Fx X d m n (x0 :: x1 :: x2 :: x3 :: pm_cz x4 :: .int x :: l) S μ r ν) : pm_Fx X d m pc (x0 :: x1 :: x2 :: x3 :: x4 :: y :: l) (.int x :: S) μ r ν := by
  refine fx_step h ?_ k
  cases x4 <;> rfl
theorem rs5c {x0 x1 x2 x3 x4 : Value} {y : Value} {x : Nat} {l : List Value} (h : pm_code m pc = some (.astore 5, n)) (k : pm_Fx X d m n (x0 :: x1 :: x2 :: x3 :: pm_cz x4 :: .ref x :: l) S μ r ν) : pm_Fx X d m pc (x0 :: x1 :: x2 :: x3 :: x4 :: y :: l) (.ref x :: S) μ r ν := by
  refine fx_step h ?_ k
  cases x4 <;> rfl
theorem ls5c {x0 x1 x2 x3 x4 : Value} {y z : Value} {x : Int64} {l : List Value} (h : pm_code m pc = some (.lstore 5, n)) (k : pm_Fx X d m n (x0 :: x1 :: x2 :: x3 :: pm_cz x4 :: .long x :: pm_jk :: l) S μ r ν) : pm_Fx X d m pc (x0 :: x1 :: x2 :: x3 :: x4 :: y :: z :: l) (.long x :: S) μ r ν := by
  refine fx_step h ?_ k
  cases x4 <;> rfl
theorem ii5c {x0 x1 x2 x3 x4 : Value} {x y : Int32} {c : Int} {l : List Value} (h : pm_code m pc = some (.iinc 5 c, n)) (hy : Int32.ofInt c = y) (k : pm_Fx X d m n (x0 :: x1 :: x2 :: x3 :: pm_cz x4 :: .int (x + y) :: l) S μ r ν) : pm_Fx X d m pc (x0 :: x1 :: x2 :: x3 :: x4 :: .int x :: l) S μ r ν := by
  subst hy
  refine fx_step h ?_ k
  cases x4 <;> rfl
theorem is6c {x0 x1 x2 x3 x4 x5 : Value} {y : Value} {x : Int32} {l : List Value} (h : pm_code m pc = some (.istore 6, n)) (k : pm_Fx X d m n (x0 :: x1 :: x2 :: x3 :: x4 :: pm_cz x5 :: .int x :: l) S μ r ν) : pm_Fx X d m pc (x0 :: x1 :: x2 :: x3 :: x4 :: x5 :: y :: l) (.int x :: S) μ r ν := by
  refine fx_step h ?_ k
  cases x5 <;> rfl
theorem rs6c {x0 x1 x2 x3 x4 x5 : Value} {y : Value} {x : Nat} {l : List Value} (h : pm_code m pc = some (.astore 6, n)) (k : pm_Fx X d m n (x0 :: x1 :: x2 :: x3 :: x4 :: pm_cz x5 :: .ref x :: l) S μ r ν) : pm_Fx X d m pc (x0 :: x1 :: x2 :: x3 :: x4 :: x5 :: y :: l) (.ref x :: S) μ r ν := by
  refine fx_step h ?_ k
  cases x5 <;> rfl
theorem ls6c {x0 x1 x2 x3 x4 x5 : Value} {y z : Value} {x : Int64} {l : List Value} (h : pm_code m pc = some (.lstore 6, n)) (k : pm_Fx X d m n (x0 :: x1 :: x2 :: x3 :: x4 :: pm_cz x5 :: .long x :: pm_jk :: l) S μ r ν) : pm_Fx X d m pc (x0 :: x1 :: x2 :: x3 :: x4 :: x5 :: y :: z :: l) (.long x :: S) μ r ν := by
  refine fx_step h ?_ k
  cases x5 <;> rfl
theorem ii6c {x0 x1 x2 x3 x4 x5 : Value} {x y : Int32} {c : Int} {l : List Value} (h : pm_code m pc = some (.iinc 6 c, n)) (hy : Int32.ofInt c = y) (k : pm_Fx X d m n (x0 :: x1 :: x2 :: x3 :: x4 :: pm_cz x5 :: .int (x + y) :: l) S μ r ν) : pm_Fx X d m pc (x0 :: x1 :: x2 :: x3 :: x4 :: x5 :: .int x :: l) S μ r ν := by
  subst hy
  refine fx_step h ?_ k
  cases x5 <;> rfl
theorem is7c {x0 x1 x2 x3 x4 x5 x6 : Value} {y : Value} {x : Int32} {l : List Value} (h : pm_code m pc = some (.istore 7, n)) (k : pm_Fx X d m n (x0 :: x1 :: x2 :: x3 :: x4 :: x5 :: pm_cz x6 :: .int x :: l) S μ r ν) : pm_Fx X d m pc (x0 :: x1 :: x2 :: x3 :: x4 :: x5 :: x6 :: y :: l) (.int x :: S) μ r ν := by
  refine fx_step h ?_ k
  cases x6 <;> rfl
theorem rs7c {x0 x1 x2 x3 x4 x5 x6 : Value} {y : Value} {x : Nat} {l : List Value} (h : pm_code m pc = some (.astore 7, n)) (k : pm_Fx X d m n (x0 :: x1 :: x2 :: x3 :: x4 :: x5 :: pm_cz x6 :: .ref x :: l) S μ r ν) : pm_Fx X d m pc (x0 :: x1 :: x2 :: x3 :: x4 :: x5 :: x6 :: y :: l) (.ref x :: S) μ r ν := by
  refine fx_step h ?_ k
  cases x6 <;> rfl
theorem ls7c {x0 x1 x2 x3 x4 x5 x6 : Value} {y z : Value} {x : Int64} {l : List Value} (h : pm_code m pc = some (.lstore 7, n)) (k : pm_Fx X d m n (x0 :: x1 :: x2 :: x3 :: x4 :: x5 :: pm_cz x6 :: .long x :: pm_jk :: l) S μ r ν) : pm_Fx X d m pc (x0 :: x1 :: x2 :: x3 :: x4 :: x5 :: x6 :: y :: z :: l) (.long x :: S) μ r ν := by
  refine fx_step h ?_ k
  cases x6 <;> rfl
theorem ii7c {x0 x1 x2 x3 x4 x5 x6 : Value} {x y : Int32} {c : Int} {l : List Value} (h : pm_code m pc = some (.iinc 7 c, n)) (hy : Int32.ofInt c = y) (k : pm_Fx X d m n (x0 :: x1 :: x2 :: x3 :: x4 :: x5 :: pm_cz x6 :: .int (x + y) :: l) S μ r ν) : pm_Fx X d m pc (x0 :: x1 :: x2 :: x3 :: x4 :: x5 :: x6 :: .int x :: l) S μ r ν := by
  subst hy
  refine fx_step h ?_ k
  cases x6 <;> rfl
theorem is8c {x0 x1 x2 x3 x4 x5 x6 x7 : Value} {y : Value} {x : Int32} {l : List Value} (h : pm_code m pc = some (.istore 8, n)) (k : pm_Fx X d m n (x0 :: x1 :: x2 :: x3 :: x4 :: x5 :: x6 :: pm_cz x7 :: .int x :: l) S μ r ν) : pm_Fx X d m pc (x0 :: x1 :: x2 :: x3 :: x4 :: x5 :: x6 :: x7 :: y :: l) (.int x :: S) μ r ν := by
  refine fx_step h ?_ k
  cases x7 <;> rfl
theorem rs8c {x0 x1 x2 x3 x4 x5 x6 x7 : Value} {y : Value} {x : Nat} {l : List Value} (h : pm_code m pc = some (.astore 8, n)) (k : pm_Fx X d m n (x0 :: x1 :: x2 :: x3 :: x4 :: x5 :: x6 :: pm_cz x7 :: .ref x :: l) S μ r ν) : pm_Fx X d m pc (x0 :: x1 :: x2 :: x3 :: x4 :: x5 :: x6 :: x7 :: y :: l) (.ref x :: S) μ r ν := by
  refine fx_step h ?_ k
  cases x7 <;> rfl
theorem ls8c {x0 x1 x2 x3 x4 x5 x6 x7 : Value} {y z : Value} {x : Int64} {l : List Value} (h : pm_code m pc = some (.lstore 8, n)) (k : pm_Fx X d m n (x0 :: x1 :: x2 :: x3 :: x4 :: x5 :: x6 :: pm_cz x7 :: .long x :: pm_jk :: l) S μ r ν) : pm_Fx X d m pc (x0 :: x1 :: x2 :: x3 :: x4 :: x5 :: x6 :: x7 :: y :: z :: l) (.long x :: S) μ r ν := by
  refine fx_step h ?_ k
  cases x7 <;> rfl
theorem ii8c {x0 x1 x2 x3 x4 x5 x6 x7 : Value} {x y : Int32} {c : Int} {l : List Value} (h : pm_code m pc = some (.iinc 8 c, n)) (hy : Int32.ofInt c = y) (k : pm_Fx X d m n (x0 :: x1 :: x2 :: x3 :: x4 :: x5 :: x6 :: pm_cz x7 :: .int (x + y) :: l) S μ r ν) : pm_Fx X d m pc (x0 :: x1 :: x2 :: x3 :: x4 :: x5 :: x6 :: x7 :: .int x :: l) S μ r ν := by
  subst hy
  refine fx_step h ?_ k
  cases x7 <;> rfl
theorem is9c {x0 x1 x2 x3 x4 x5 x6 x7 x8 : Value} {y : Value} {x : Int32} {l : List Value} (h : pm_code m pc = some (.istore 9, n)) (k : pm_Fx X d m n (x0 :: x1 :: x2 :: x3 :: x4 :: x5 :: x6 :: x7 :: pm_cz x8 :: .int x :: l) S μ r ν) : pm_Fx X d m pc (x0 :: x1 :: x2 :: x3 :: x4 :: x5 :: x6 :: x7 :: x8 :: y :: l) (.int x :: S) μ r ν := by
  refine fx_step h ?_ k
  cases x8 <;> rfl
theorem rs9c {x0 x1 x2 x3 x4 x5 x6 x7 x8 : Value} {y : Value} {x : Nat} {l : List Value} (h : pm_code m pc = some (.astore 9, n)) (k : pm_Fx X d m n (x0 :: x1 :: x2 :: x3 :: x4 :: x5 :: x6 :: x7 :: pm_cz x8 :: .ref x :: l) S μ r ν) : pm_Fx X d m pc (x0 :: x1 :: x2 :: x3 :: x4 :: x5 :: x6 :: x7 :: x8 :: y :: l) (.ref x :: S) μ r ν := by
  refine fx_step h ?_ k
  cases x8 <;> rfl
theorem ls9c {x0 x1 x2 x3 x4 x5 x6 x7 x8 : Value} {y z : Value} {x : Int64} {l : List Value} (h : pm_code m pc = some (.lstore 9, n)) (k : pm_Fx X d m n (x0 :: x1 :: x2 :: x3 :: x4 :: x5 :: x6 :: x7 :: pm_cz x8 :: .long x :: pm_jk :: l) S μ r ν) : pm_Fx X d m pc (x0 :: x1 :: x2 :: x3 :: x4 :: x5 :: x6 :: x7 :: x8 :: y :: z :: l) (.long x :: S) μ r ν := by
  refine fx_step h ?_ k
  cases x8 <;> rfl
theorem ii9c {x0 x1 x2 x3 x4 x5 x6 x7 x8 : Value} {x y : Int32} {c : Int} {l : List Value} (h : pm_code m pc = some (.iinc 9 c, n)) (hy : Int32.ofInt c = y) (k : pm_Fx X d m n (x0 :: x1 :: x2 :: x3 :: x4 :: x5 :: x6 :: x7 :: pm_cz x8 :: .int (x + y) :: l) S μ r ν) : pm_Fx X d m pc (x0 :: x1 :: x2 :: x3 :: x4 :: x5 :: x6 :: x7 :: x8 :: .int x :: l) S μ r ν := by
  subst hy
  refine fx_step h ?_ k
  cases x8 <;> rfl
theorem is10c {x0 x1 x2 x3 x4 x5 x6 x7 x8 x9 : Value} {y : Value} {x : Int32} {l : List Value} (h : pm_code m pc = some (.istore 10, n)) (k : pm_Fx X d m n (x0 :: x1 :: x2 :: x3 :: x4 :: x5 :: x6 :: x7 :: x8 :: pm_cz x9 :: .int x :: l) S μ r ν) : pm_Fx X d m pc (x0 :: x1 :: x2 :: x3 :: x4 :: x5 :: x6 :: x7 :: x8 :: x9 :: y :: l) (.int x :: S) μ r ν := by
  refine fx_step h ?_ k
  cases x9 <;> rfl
theorem rs10c {x0 x1 x2 x3 x4 x5 x6 x7 x8 x9 : Value} {y : Value} {x : Nat} {l : List Value} (h : pm_code m pc = some (.astore 10, n)) (k : pm_Fx X d m n (x0 :: x1 :: x2 :: x3 :: x4 :: x5 :: x6 :: x7 :: x8 :: pm_cz x9 :: .ref x :: l) S μ r ν) : pm_Fx X d m pc (x0 :: x1 :: x2 :: x3 :: x4 :: x5 :: x6 :: x7 :: x8 :: x9 :: y :: l) (.ref x :: S) μ r ν := by
  refine fx_step h ?_ k
  cases x9 <;> rfl
theorem ls10c {x0 x1 x2 x3 x4 x5 x6 x7 x8 x9 : Value} {y z : Value} {x : Int64} {l : List Value} (h : pm_code m pc = some (.lstore 10, n)) (k : pm_Fx X d m n (x0 :: x1 :: x2 :: x3 :: x4 :: x5 :: x6 :: x7 :: x8 :: pm_cz x9 :: .long x :: pm_jk :: l) S μ r ν) : pm_Fx X d m pc (x0 :: x1 :: x2 :: x3 :: x4 :: x5 :: x6 :: x7 :: x8 :: x9 :: y :: z :: l) (.long x :: S) μ r ν := by
  refine fx_step h ?_ k
  cases x9 <;> rfl
theorem ii10c {x0 x1 x2 x3 x4 x5 x6 x7 x8 x9 : Value} {x y : Int32} {c : Int} {l : List Value} (h : pm_code m pc = some (.iinc 10 c, n)) (hy : Int32.ofInt c = y) (k : pm_Fx X d m n (x0 :: x1 :: x2 :: x3 :: x4 :: x5 :: x6 :: x7 :: x8 :: pm_cz x9 :: .int (x + y) :: l) S μ r ν) : pm_Fx X d m pc (x0 :: x1 :: x2 :: x3 :: x4 :: x5 :: x6 :: x7 :: x8 :: x9 :: .int x :: l) S μ r ν := by
  subst hy
  refine fx_step h ?_ k
  cases x9 <;> rfl
theorem is11c {x0 x1 x2 x3 x4 x5 x6 x7 x8 x9 x10 : Value} {y : Value} {x : Int32} {l : List Value} (h : pm_code m pc = some (.istore 11, n)) (k : pm_Fx X d m n (x0 :: x1 :: x2 :: x3 :: x4 :: x5 :: x6 :: x7 :: x8 :: x9 :: pm_cz x10 :: .int x :: l) S μ r ν) : pm_Fx X d m pc (x0 :: x1 :: x2 :: x3 :: x4 :: x5 :: x6 :: x7 :: x8 :: x9 :: x10 :: y :: l) (.int x :: S) μ r ν := by
  refine fx_step h ?_ k
  cases x10 <;> rfl
theorem rs11c {x0 x1 x2 x3 x4 x5 x6 x7 x8 x9 x10 : Value} {y : Value} {x : Nat} {l : List Value} (h : pm_code m pc = some (.astore 11, n)) (k : pm_Fx X d m n (x0 :: x1 :: x2 :: x3 :: x4 :: x5 :: x6 :: x7 :: x8 :: x9 :: pm_cz x10 :: .ref x :: l) S μ r ν) : pm_Fx X d m pc (x0 :: x1 :: x2 :: x3 :: x4 :: x5 :: x6 :: x7 :: x8 :: x9 :: x10 :: y :: l) (.ref x :: S) μ r ν := by
  refine fx_step h ?_ k
  cases x10 <;> rfl
theorem ls11c {x0 x1 x2 x3 x4 x5 x6 x7 x8 x9 x10 : Value} {y z : Value} {x : Int64} {l : List Value} (h : pm_code m pc = some (.lstore 11, n)) (k : pm_Fx X d m n (x0 :: x1 :: x2 :: x3 :: x4 :: x5 :: x6 :: x7 :: x8 :: x9 :: pm_cz x10 :: .long x :: pm_jk :: l) S μ r ν) : pm_Fx X d m pc (x0 :: x1 :: x2 :: x3 :: x4 :: x5 :: x6 :: x7 :: x8 :: x9 :: x10 :: y :: z :: l) (.long x :: S) μ r ν := by
  refine fx_step h ?_ k
  cases x10 <;> rfl
theorem ii11c {x0 x1 x2 x3 x4 x5 x6 x7 x8 x9 x10 : Value} {x y : Int32} {c : Int} {l : List Value} (h : pm_code m pc = some (.iinc 11 c, n)) (hy : Int32.ofInt c = y) (k : pm_Fx X d m n (x0 :: x1 :: x2 :: x3 :: x4 :: x5 :: x6 :: x7 :: x8 :: x9 :: pm_cz x10 :: .int (x + y) :: l) S μ r ν) : pm_Fx X d m pc (x0 :: x1 :: x2 :: x3 :: x4 :: x5 :: x6 :: x7 :: x8 :: x9 :: x10 :: .int x :: l) S μ r ν := by
  subst hy
  refine fx_step h ?_ k
  cases x10 <;> rfl
theorem is12c {x0 x1 x2 x3 x4 x5 x6 x7 x8 x9 x10 x11 : Value} {y : Value} {x : Int32} {l : List Value} (h : pm_code m pc = some (.istore 12, n)) (k : pm_Fx X d m n (x0 :: x1 :: x2 :: x3 :: x4 :: x5 :: x6 :: x7 :: x8 :: x9 :: x10 :: pm_cz x11 :: .int x :: l) S μ r ν) : pm_Fx X d m pc (x0 :: x1 :: x2 :: x3 :: x4 :: x5 :: x6 :: x7 :: x8 :: x9 :: x10 :: x11 :: y :: l) (.int x :: S) μ r ν := by
  refine fx_step h ?_ k
  cases x11 <;> rfl
theorem rs12c {x0 x1 x2 x3 x4 x5 x6 x7 x8 x9 x10 x11 : Value} {y : Value} {x : Nat} {l : List Value} (h : pm_code m pc = some (.astore 12, n)) (k : pm_Fx X d m n (x0 :: x1 :: x2 :: x3 :: x4 :: x5 :: x6 :: x7 :: x8 :: x9 :: x10 :: pm_cz x11 :: .ref x :: l) S μ r ν) : pm_Fx X d m pc (x0 :: x1 :: x2 :: x3 :: x4 :: x5 :: x6 :: x7 :: x8 :: x9 :: x10 :: x11 :: y :: l) (.ref x :: S) μ r ν := by
  refine fx_step h ?_ k
  cases x11 <;> rfl
theorem ls12c {x0 x1 x2 x3 x4 x5 x6 x7 x8 x9 x10 x11 : Value} {y z : Value} {x : Int64} {l : List Value} (h : pm_code m pc = some (.lstore 12, n)) (k : pm_Fx X d m n (x0 :: x1 :: x2 :: x3 :: x4 :: x5 :: x6 :: x7 :: x8 :: x9 :: x10 :: pm_cz x11 :: .long x :: pm_jk :: l) S μ r ν) : pm_Fx X d m pc (x0 :: x1 :: x2 :: x3 :: x4 :: x5 :: x6 :: x7 :: x8 :: x9 :: x10 :: x11 :: y :: z :: l) (.long x :: S) μ r ν := by
  refine fx_step h ?_ k
  cases x11 <;> rfl
theorem ii12c {x0 x1 x2 x3 x4 x5 x6 x7 x8 x9 x10 x11 : Value} {x y : Int32} {c : Int} {l : List Value} (h : pm_code m pc = some (.iinc 12 c, n)) (hy : Int32.ofInt c = y) (k : pm_Fx X d m n (x0 :: x1 :: x2 :: x3 :: x4 :: x5 :: x6 :: x7 :: x8 :: x9 :: x10 :: pm_cz x11 :: .int (x + y) :: l) S μ r ν) : pm_Fx X d m pc (x0 :: x1 :: x2 :: x3 :: x4 :: x5 :: x6 :: x7 :: x8 :: x9 :: x10 :: x11 :: .int x :: l) S μ r ν := by
  subst hy
  refine fx_step h ?_ k
  cases x11 <;> rfl
end Cz
