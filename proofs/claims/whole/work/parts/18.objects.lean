/-! THE OBJECTS, AND THE CONSTRUCTORS BY EVALUATION -/
/-- the cells, once both objects stand: kind (class number, or 20 int[], 21 long[], 22 boolean[], 23 int[][]) and length -/
def pm_T0 : List (Nat × Nat) := [(11, 14), (8, 9), (20, 600), (3, 7), (6, 1), (20, 66), (2, 3), (20, 150), (20, 32), (2, 3), (20, 150), (20, 32), (20, 8), (20, 5), (20, 5), (5, 11), (20, 8), (20, 8), (20, 8), (20, 8), (20, 5), (20, 5), (20, 5), (0, 5), (23, 16), (20, 66), (20, 66), (20, 66), (20, 66), (20, 66), (20, 66), (20, 66), (20, 66), (20, 66), (20, 66), (20, 66), (20, 66), (20, 66), (20, 66), (20, 66), (20, 66), (23, 51), (20, 66), (20, 66), (20, 66), (20, 66), (20, 66), (20, 66), (20, 66), (20, 66), (20, 66), (20, 66), (20, 66), (20, 66), (20, 66), (20, 66), (20, 66), (20, 66), (20, 66), (20, 66), (20, 66), (20, 66), (20, 66), (20, 66), (20, 66), (20, 66), (20, 66), (20, 66), (20, 66), (20, 66), (20, 66), (20, 66), (20, 66), (20, 66), (20, 66), (20, 66), (20, 66), (20, 66), (20, 66), (20, 66), (20, 66), (20, 66), (20, 66), (20, 66), (20, 66), (20, 66), (20, 66), (20, 66), (20, 66), (20, 66), (20, 66), (20, 66), (20, 66), (20, 3), (2, 3), (20, 150), (20, 32), (7, 8), (20, 150), (20, 150), (20, 150), (20, 150), (9, 7), (20, 1000), (4, 13), (21, 3125), (20, 8), (20, 8), (20, 40), (20, 5), (20, 5), (20, 5), (10, 3), (5, 11), (20, 8), (20, 8), (20, 8), (20, 8), (20, 5), (20, 5), (20, 5), (1, 3), (20, 8), (20, 8), (1, 3), (20, 8), (20, 8), (12, 59), (20, 2), (20, 600), (20, 32), (20, 15), (20, 32), (20, 15), (20, 150), (20, 150), (20, 300), (20, 300), (20, 2), (20, 150), (20, 8), (20, 150), (20, 150), (20, 66), (20, 66), (20, 1056), (20, 16), (20, 16), (20, 40), (20, 5), (20, 8), (20, 8), (22, 225), (20, 225), (20, 1000), (20, 5), (20, 3369), (21, 1)]
/-- the register and the book in use -/
def pm_rg (b : Bool) : Nat := cond b 113 15
def pm_bk (c : Bool) : Nat := cond c 124 121
def pm_ptt (b c : Bool) : List (List Value) := [[.ref 1, .ref 3, .ref 23, .ref 94, .ref 97, .ref 102, .ref 104, .ref 112, .ref (pm_rg (!b)), .ref (pm_bk c), .ref (pm_bk (!c))], [.ref 2], [], [.ref 4, .ref 6, .ref 9, .ref 12, .ref 13, .ref 14, .ref (pm_rg b)], [.ref 5], [], [.ref 7, .ref 8], [], [], [.ref 10, .ref 11], [], [], [], [], [], [.ref 16, .ref 17, .ref 18, .ref 19, .ref 20, .ref 21, .ref 22], [], [], [], [], [], [], [], [.ref 24, .ref 41, .ref 93], [.ref 25, .ref 26, .ref 27, .ref 28, .ref 29, .ref 30, .ref 31, .ref 32, .ref 33, .ref 34, .ref 35, .ref 36, .ref 37, .ref 38, .ref 39, .ref 40], [], [], [], [], [], [], [], [], [], [], [], [], [], [], [], [], [.ref 42, .ref 43, .ref 44, .ref 45, .ref 46, .ref 47, .ref 48, .ref 49, .ref 50, .ref 51, .ref 52, .ref 53, .ref 54, .ref 55, .ref 56, .ref 57, .ref 58, .ref 59, .ref 60, .ref 61, .ref 62, .ref 63, .ref 64, .ref 65, .ref 66, .ref 67, .ref 68, .ref 69, .ref 70, .ref 71, .ref 72, .ref 73, .ref 74, .ref 75, .ref 76, .ref 77, .ref 78, .ref 79, .ref 80, .ref 81, .ref 82, .ref 83, .ref 84, .ref 85, .ref 86, .ref 87, .ref 88, .ref 89, .ref 90, .ref 91, .ref 92], [], [], [], [], [], [], [], [], [], [], [], [], [], [], [], [], [], [], [], [], [], [], [], [], [], [], [], [], [], [], [], [], [], [], [], [], [], [], [], [], [], [], [], [], [], [], [], [], [], [], [], [], [.ref 95, .ref 96], [], [], [.ref 98, .ref 99, .ref 100, .ref 101], [], [], [], [], [.ref 103], [], [.ref 105, .ref 106, .ref 107, .ref 108, .ref 109, .ref 110, .ref 111], [], [], [], [], [], [], [], [], [.ref 114, .ref 115, .ref 116, .ref 117, .ref 118, .ref 119, .ref 120], [], [], [], [], [], [], [], [.ref 122, .ref 123], [], [], [.ref 125, .ref 126], [], [], [.null, .ref 128, .null, .null, .null, .null, .null, .null, .null, .ref 129, .ref 130, .ref 131, .ref 132, .ref 133, .null, .null, .null, .null, .null, .null, .null, .ref 134, .ref 135, .ref 136, .ref 137, .ref 138, .ref 139, .null, .ref 140, .ref 141, .ref 142, .null, .null, .null, .null, .null, .null, .ref 143, .ref 144, .ref 145, .null, .null, .null, .ref 146, .ref 147, .null, .ref 148, .ref 149, .ref 150, .ref 151, .null, .ref 152, .ref 153, .ref 154, .ref 155, .null, .null, .ref 156], [], [], [], [], [], [], [], [], [], [], [], [], [], [], [], [], [], [], [], [], [], [], [], [], [], [], [], [], [], []]
/-- where the references lead -/
def pm_pt (b c : Bool) (a f : Nat) : Value := ((pm_ptt b c).getD a []).getD f .null
def pm_PP (b c : Bool) (P : Nat → Nat → Value) : Prop := ∀ a f q : Nat, pm_pt b c a f = .ref q → P a f = .ref q
/-- a run by evaluation -/
def pm_nz (S : List Value) : Bool := S.all (fun v => match v with | .retAddr _ => false | _ => true)
def pm_jj (kd na : Nat) : Nat := na + (if kd = 0 then 0 else 1)
def pm_X0 : (Nat → Int32) × Nat := (fun _ => 0, 0)
/-- the evaluation takes numbers as numbers, not as sums to be made -/
def pm_fn {α : Type} (n : Nat) (k : Nat → α) : α := match n with | 0 => k 0 | j + 1 => k (j + 1)
theorem pm_fn_eq {α : Type} (n : Nat) (k : Nat → α) : pm_fn n k = k n := by cases n <;> rfl
def pm_fi {α : Type} (x : Int32) (k : Int32 → α) : α := pm_fn x.toBitVec.toNat (fun n => k (nI n))
theorem pm_nIx (x : Int32) : nI x.toBitVec.toNat = x := by
  apply Int32.toBitVec_inj.mp
  show BitVec.ofNat 32 x.toBitVec.toNat = x.toBitVec
  simp
theorem pm_fi_eq {α : Type} (x : Int32) (k : Int32 → α) : pm_fi x k = k x := by unfold pm_fi; rw [pm_fn_eq, pm_nIx]
def pm_fw {α : Type} (v : Value) (k : Value → α) : α := match v with | .int x => pm_fi x (fun y => k (.int y)) | .ref a => pm_fn a (fun b => k (.ref b)) | w => k w
theorem pm_fw_eq {α : Type} (v : Value) (k : Value → α) : pm_fw v k = k v := by
  cases v <;> first | rfl | exact pm_fi_eq _ (fun y => k (.int y)) | exact pm_fn_eq _ (fun b => k (.ref b))
def pm_fl {α : Type} : List Value → (List Value → α) → α
  | [], k => k []
  | v :: r, k => pm_fw v (fun w => pm_fl r (fun t => k (w :: t)))
theorem pm_fl_eq {α : Type} : ∀ (S : List Value) (k : List Value → α), pm_fl S k = k S
  | [], k => rfl
  | v :: r, k => by unfold pm_fl; rw [pm_fw_eq, pm_fl_eq r]
def pm_fh {α : Type} (S : List Value) (k : List Value → α) : α := match S with | [] => k [] | v :: r => pm_fw v (fun w => k (w :: r))
theorem pm_fh_eq {α : Type} (S : List Value) (k : List Value → α) : pm_fh S k = k S := by
  cases S with
  | nil => rfl
  | cons v t => exact pm_fw_eq v (fun w => k (w :: t))
def pm_isinc (i : Instr) : Bool := match i with | .iinc _ _ => true | _ => false
def pm_fLl {α : Type} (i : Instr) (L : List Value) (k : List Value → α) : α := bif pm_isinc i then pm_fl L k else k L
theorem pm_fLl_eq {α : Type} (i : Instr) (L : List Value) (k : List Value → α) : pm_fLl i L k = k L := by unfold pm_fLl; cases pm_isinc i <;> simp [pm_fl_eq]
def pm_ex : Nat → Nat → Nat → Nat → List Value → List Value → pm_M → Option (pm_R × pm_M)
  | 0, _, _, _, _, _, _ => none
  | fuel + 1, dep, m, pc, L, S, μ =>
    match pm_code m pc with
    | none => none
    | some (ins, n) =>
      match ins with
      | .return_ => if pm_rt m = none ∧ S = [] then some (.inl none, μ) else none
      | .ireturn => match S with
        | [v] => if pm_ri .ireturn v = true ∧ pm_rv m v = true then some (.inl (some v), μ) else none
        | _ => none
      | ins =>
        match pm_iv3 ins with
        | none => if pm_nz S = true then (match pm_step pm_X0 (pm_k m) (pm_ini m) ins pc n L S μ with
          | some (pc', L', S', μ') => pm_fn pc' (fun pc' => pm_fLl ins L' (fun L' => pm_fh S' (fun S' => pm_ex fuel dep m pc' L' S' μ')))
          | none => none) else none
        | some (i, kd) =>
          match pm_tg (pm_k m) i with
          | none => if pm_nz S = true then (match pm_step pm_X0 (pm_k m) (pm_ini m) ins pc n L S μ with
            | some (pc', L', S', μ') => pm_fn pc' (fun pc' => pm_fLl ins L' (fun L' => pm_fh S' (fun S' => pm_ex fuel dep m pc' L' S' μ')))
            | none => none) else none
          | some (m', na, kd', _) =>
            match dep with
            | 0 => none
            | dep + 1 =>
              if kd' = kd ∧ (S.take (pm_jj kd na)).reverse.length = pm_jj kd na ∧ pm_rc m' μ.2.2.2.1 kd (S.take (pm_jj kd na)).reverse = true ∧ (S.drop (pm_jj kd na)).length ≤ 20 ∧ (S.take (pm_jj kd na)).reverse.all (fun v => !pm_dbl v) = true ∧ (pm_ent (S.take (pm_jj kd na)).reverse).length ≤ pm_ml m' then
                (match pm_ex fuel dep m' 0 (pm_en m' (S.take (pm_jj kd na)).reverse) [] μ with
                | some (.inl v, μ1) => pm_fn n (fun n => pm_fh (v.toList ++ S.drop (pm_jj kd na)) (fun S' => pm_ex fuel (dep + 1) m n L S' μ1))
                | _ => none)
              else none
theorem pm_step_X {X : (Nat → Int32) × Nat} {k : Nat} {ini : Bool} {ins : Instr} {pc n : Nat} {L S : List Value} {μ : pm_M} (h : pm_nz S = true) : pm_step pm_X0 k ini ins pc n L S μ = pm_step X k ini ins pc n L S μ := by
  cases ins
  case iaload =>
    match S, h with
    | [], _ => rfl
    | [v], _ => cases v <;> rfl
    | v :: w :: r, h =>
      cases v <;> first | rfl | skip
      cases w <;> first | rfl | skip
      simp [pm_nz] at h
  case arraylength =>
    match S, h with
    | [], _ => rfl
    | v :: r, h =>
      cases v <;> first | rfl | skip
      simp [pm_nz] at h
  case newarray ty => cases ty <;> rfl
  case multianewarray i dm => rcases dm with _ | _ | _ | dm <;> rfl
  all_goals rfl
theorem pm_ex_ok {X : (Nat → Int32) × Nat} : ∀ (fuel dep m pc : Nat) (L S : List Value) (μ : pm_M) (r : pm_R) (ν : pm_M), pm_ex fuel dep m pc L S μ = some (r, ν) → pm_Fx X dep m pc L S μ r ν := by
  intro fuel
  induction fuel with
  | zero => intro dep m pc L S μ r ν h; simp [pm_ex] at h
  | succ fuel ih =>
    intro dep m pc L S μ r ν h
    unfold pm_ex at h
    split at h
    · cases h
    · rename_i ins n hc
      split at h
      · split at h
        · rename_i hh
          cases h
          obtain ⟨h1, rfl⟩ := hh
          exact r_rv hc h1 rfl
        · cases h
      · split at h
        · rename_i v
          split at h
          · rename_i hh
            cases h
            exact fun Q hQ F hF => hF.2.2.1 dep m pc n L v μ Q _ hc hh.1 hh.2 hQ
          · cases h
        · cases h
      · split at h
        · split at h
          · rename_i hz
            split at h
            · rename_i pc' L' S' μ' hs
              rw [pm_step_X hz] at hs
              rw [pm_fn_eq, pm_fLl_eq, pm_fh_eq] at h
              exact fx_step hc hs (ih _ _ _ _ _ _ _ _ h)
            · cases h
          · cases h
        · rename_i i kd hiv
          split at h
          · split at h
            · rename_i hz
              split at h
              · rename_i pc' L' S' μ' hs
                rw [pm_step_X hz] at hs
                rw [pm_fn_eq, pm_fLl_eq, pm_fh_eq] at h
                exact fx_step hc hs (ih _ _ _ _ _ _ _ _ h)
              · cases h
            · cases h
          · rename_i m' na kd' nest htg
            split at h
            · cases h
            · rename_i dep
              split at h
              · rename_i hh
                obtain ⟨h1, h2, h3, h4, h5, h6⟩ := hh
                subst h1
                split at h
                · rename_i v μ1 hr
                  rw [pm_fn_eq, pm_fh_eq] at h
                  exact fx_call (as := (S.take (pm_jj kd' na)).reverse) ⟨_, _, _, _, hc, hiv, htg, rfl⟩ h2 (Nat.ble_eq_true_of_le h4) (by rw [List.reverse_reverse, List.take_append_drop]) ⟨h3, h5, h6, ih _ _ _ _ _ _ _ _ hr⟩ (ih _ _ _ _ _ _ _ _ h)
                · cases h
              · cases h
