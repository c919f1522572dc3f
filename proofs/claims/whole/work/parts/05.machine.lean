/-! THE PROGRAM'S OWN MACHINE: a flat memory (ints, longs, references by place; kinds and lengths of the cells; exceptions made), one instruction a step; what runs here runs so on the JVM (next part). -/
abbrev pm_M : Type := (Nat → Nat → Int32) × (Nat → Nat → Int64) × (Nat → Nat → Value) × List (Nat × Nat) × Nat
abbrev pm_R : Type := Option Value ⊕ Nat
abbrev pm_Q : Type := pm_R → pm_M → Prop
abbrev pm_S : Type := Option (Nat × List Value × List Value × pm_M)
/-- how many bytes an instruction that the machine knows takes (0: it doesn't know it) -/
def pm_len (i : Instr) (n : Nat) : Nat := match i with
  | .aload_n _ | .iload_n _ | .lload_n _ | .istore_n _ | .lstore_n _ | .astore_n _ | .iconst _ | .lconst _ => 1
  | .iadd | .isub | .imul | .iand | .ior | .ishl | .ishr | .iushr | .idiv | .irem | .ladd | .lsub | .lmul | .land | .ldiv | .lrem | .lshl | .lshr | .lcmp | .lneg | .i2l | .l2i | .i2c | .dup | .dup2 | .pop => 1
  | .iaload | .baload | .laload | .aaload | .iastore | .bastore | .lastore | .arraylength | .ireturn | .lreturn | .areturn | .return_ | .athrow => 1
  | .aload _ | .iload _ | .lload _ | .istore _ | .lstore _ | .astore _ | .bipush _ | .ldc _ | .newarray _ => 2
  | .iinc _ _ | .sipush _ | .ldc_w _ | .ldc2_w _ | .ifCond _ _ | .if_icmp _ _ | .goto _ | .getfield _ | .putfield _ | .new _ | .invokespecial _ | .invokestatic _ | .invokevirtual _ | .getstatic _ => 3
  | .multianewarray _ _ => 4
  | .tableswitch _ _ _ _ | .lookupswitch _ _ => n
  | _ => 0
/-- the instruction at a place, and the place behind it -/
def pm_code (m pc : Nat) : Option (Instr × Nat) := match decode (pm_by m) pc with
  | .ok (i, n) => if n = pm_len i n then some (i, pc + n) else none
  | .error _ => none
theorem pm_dec {m pc n : Nat} {ins : Instr} (h : pm_code m pc = some (ins, n)) : ∃ k : Nat, decode (pm_by m) pc = .ok (ins, k) ∧ k = pm_len ins k ∧ n = pc + k := by
  unfold pm_code at h
  split at h
  · rename_i i k hk
    split at h
    · rename_i hl
      cases h
      exact ⟨k, hk, hl, rfl⟩
    · cases h
  · cases h
theorem pm_of {m : Nat} {l : List (Nat × Instr × Nat)} (h : l.all (fun q => decide (pm_code m q.1 = some q.2)) = true) (i : Nat) {q : Nat × Instr × Nat} (hq : l[i]? = some q) : pm_code m q.1 = some q.2 :=
  of_decide_eq_true (List.all_eq_true.mp h q (List.mem_of_getElem? hq))
/-- what is in a local variable that holds nothing -/
def pm_jk : Value := .double 0
def pm_sm (T : List (Nat × Nat)) : Nat := (T.map (fun q => q.2)).sum
def pm_clr (L : List Value) (i : Nat) : List Value := match i with
  | 0 => L
  | j + 1 => match L[j]? with
    | some (.long _) => L.set j pm_jk
    | _ => L
def pm_st (L : List Value) (i : Nat) (v : Value) : List Value := (pm_clr L i).set i v
def pm_st2 (L : List Value) (i : Nat) (v : Value) : List Value := ((pm_clr L i).set i v).set (i + 1) pm_jk
def pm_ald (i n : Nat) (L S : List Value) (μ : pm_M) : pm_S := match L[i]? with
  | some (.ref a) => some (n, L, .ref a :: S, μ)
  | some (.retAddr 0) => some (n, L, .retAddr 0 :: S, μ)
  | some (.retAddr (a + 2)) => some (n, L, .retAddr (a + 2) :: S, μ)
  | _ => none
def pm_ild (i n : Nat) (L S : List Value) (μ : pm_M) : pm_S := match L[i]? with
  | some (.int x) => some (n, L, .int x :: S, μ)
  | _ => none
def pm_lld (i n : Nat) (L S : List Value) (μ : pm_M) : pm_S := match L[i]? with
  | some (.long x) => some (n, L, .long x :: S, μ)
  | _ => none
def pm_ist (i n : Nat) (L S : List Value) (μ : pm_M) : pm_S := match S with
  | .int x :: r => if i < L.length then some (n, pm_st L i (.int x), r, μ) else none
  | _ => none
def pm_lst (i n : Nat) (L S : List Value) (μ : pm_M) : pm_S := match S with
  | .long x :: r => if i + 1 < L.length then some (n, pm_st2 L i (.long x), r, μ) else none
  | _ => none
def pm_ast (i n : Nat) (L S : List Value) (μ : pm_M) : pm_S := match S with
  | .ref x :: r => if i < L.length then some (n, pm_st L i (.ref x), r, μ) else none
  | _ => none
def pm_inc (i : Nat) (c : Int) (n : Nat) (L S : List Value) (μ : pm_M) : pm_S := match L[i]? with
  | some (.int x) => some (n, pm_st L i (.int (x + Int32.ofInt c)), S, μ)
  | _ => none
def pm_ii (f : Int32 → Int32 → Int32) (n : Nat) (L S : List Value) (μ : pm_M) : pm_S := match S with
  | .int y :: .int x :: r => some (n, L, .int (f x y) :: r, μ)
  | _ => none
def pm_id (f : Int32 → Int32 → Int32) (n : Nat) (L S : List Value) (μ : pm_M) : pm_S := match S with
  | .int y :: .int x :: r => if y = 0 then none else some (n, L, .int (f x y) :: r, μ)
  | _ => none
def pm_ll (f : Int64 → Int64 → Int64) (n : Nat) (L S : List Value) (μ : pm_M) : pm_S := match S with
  | .long y :: .long x :: r => some (n, L, .long (f x y) :: r, μ)
  | _ => none
def pm_ldv (f : Int64 → Int64 → Int64) (n : Nat) (L S : List Value) (μ : pm_M) : pm_S := match S with
  | .long y :: .long x :: r => if y = 0 then none else some (n, L, .long (f x y) :: r, μ)
  | _ => none
def pm_li (f : Int64 → Int32 → Int64) (n : Nat) (L S : List Value) (μ : pm_M) : pm_S := match S with
  | .int y :: .long x :: r => some (n, L, .long (f x y) :: r, μ)
  | _ => none
def pm_vv (f : Value → Option Value) (n : Nat) (L S : List Value) (μ : pm_M) : pm_S := match S with
  | v :: r => match f v with
    | some w => some (n, L, w :: r, μ)
    | none => none
  | _ => none
def pm_to (pc : Nat) (off : Int) : Nat := ((pc : Int) + off).toNat
def pm_cd (c : ClassFile.Cond) (x y : Int32) : Bool := match c with
  | .eq => decide (x = y)
  | .ne => decide (¬ x = y)
  | .lt => decide (x < y)
  | .ge => decide (y ≤ x)
  | .gt => decide (y < x)
  | .le => decide (x ≤ y)
def pm_b1 (c : ClassFile.Cond) (off : Int) (pc n : Nat) (L S : List Value) (μ : pm_M) : pm_S := match S with
  | .int x :: r => if (0 : Int) ≤ (pc : Int) + off then some (bif pm_cd c x 0 then pm_to pc off else n, L, r, μ) else none
  | _ => none
def pm_b2 (c : ClassFile.Cond) (off : Int) (pc n : Nat) (L S : List Value) (μ : pm_M) : pm_S := match S with
  | .int y :: .int x :: r => if (0 : Int) ≤ (pc : Int) + off then some (bif pm_cd c x y then pm_to pc off else n, L, r, μ) else none
  | _ => none
def pm_sw (off : Int32 → Option Int) (pc : Nat) (L S : List Value) (μ : pm_M) : pm_S := match S with
  | .int x :: r => match off x with
    | some o => if (0 : Int) ≤ (pc : Int) + o then some (pm_to pc o, L, r, μ) else none
    | none => none
  | _ => none
def pm_tsw (dflt lo hi : Int) (offs : Array Int) (x : Int32) : Option Int := if x.toInt < lo ∨ hi < x.toInt then some dflt else offs[(x.toInt - lo).toNat]?
def pm_gf (k i n : Nat) (L S : List Value) (μ : pm_M) : pm_S := match S with
  | .ref a :: r => match pm_fd k i, μ.2.2.2.1[a]? with
    | some (ci, f, kd), some (c, nf) => if c = ci ∧ ci < 13 ∧ f < nf then some (n, L, (if kd = 0 then .int (μ.1 a f) else μ.2.2.1 a f) :: r, μ) else none
    | _, _ => none
  | .retAddr a :: r => if k = 16 ∧ 2 ≤ a ∧ a % 2 = 0 ∧ a < 2 + 2 * pm_tx.length then (if i = 9 then some (n, L, .retAddr (a + 1) :: r, μ) else if i = 15 then some (n, L, .int 0 :: r, μ) else none) else none
  | _ => none
def pm_pf (k : Nat) (ini : Bool) (i n : Nat) (L S : List Value) (μ : pm_M) : pm_S := match S with
  | .int x :: .ref a :: r => match pm_fd k i, μ.2.2.2.1[a]? with
    | some (ci, f, kd), some (c, nf) => if c = ci ∧ ci < 13 ∧ f < nf ∧ kd = 0 ∧ (pm_fin ci f = false ∨ (ini = true ∧ k = ci)) then some (n, L, r, (va_up μ.1 a (upd (μ.1 a) f x), μ.2)) else none
    | _, _ => none
  | .ref x :: .ref a :: r => match pm_fd k i, μ.2.2.2.1[a]? with
    | some (ci, f, kd), some (c, nf) => if c = ci ∧ ci < 13 ∧ f < nf ∧ kd = 2 ∧ (pm_fin ci f = false ∨ (ini = true ∧ k = ci)) then some (n, L, r, (μ.1, μ.2.1, va_up μ.2.2.1 a (va_up (μ.2.2.1 a) f (.ref x)), μ.2.2.2)) else none
    | _, _ => none
  | _ => none
def pm_ia (X : (Nat → Int32) × Nat) (n : Nat) (L S : List Value) (μ : pm_M) : pm_S := match S with
  | .int j :: .ref a :: r => match μ.2.2.2.1[a]? with
    | some (c, len) => if c = 20 ∧ 0 ≤ j.toInt ∧ j.toInt < len then some (n, L, .int (μ.1 a j.toNatClampNeg) :: r, μ) else none
    | none => none
  | .int j :: .retAddr 0 :: r => if 0 ≤ j.toInt ∧ j.toInt < X.2 then some (n, L, .int (X.1 j.toNatClampNeg) :: r, μ) else none
  | _ => none
def pm_ba (n : Nat) (L S : List Value) (μ : pm_M) : pm_S := match S with
  | .int j :: .ref a :: r => match μ.2.2.2.1[a]? with
    | some (c, len) => if c = 22 ∧ 0 ≤ j.toInt ∧ j.toInt < len then some (n, L, .int (μ.1 a j.toNatClampNeg) :: r, μ) else none
    | none => none
  | .int j :: .retAddr a :: r => match pm_tx[(a - 3) / 2]? with
    | some t => if 3 ≤ a ∧ a % 2 = 1 ∧ 0 ≤ j.toInt ∧ j.toInt < t.length then some (n, L, .int (nI (t.getD j.toNatClampNeg 0)) :: r, μ) else none
    | none => none
  | _ => none
def pm_la (n : Nat) (L S : List Value) (μ : pm_M) : pm_S := match S with
  | .int j :: .ref a :: r => match μ.2.2.2.1[a]? with
    | some (c, len) => if c = 21 ∧ 0 ≤ j.toInt ∧ j.toInt < len then some (n, L, .long (μ.2.1 a j.toNatClampNeg) :: r, μ) else none
    | none => none
  | _ => none
def pm_aa (n : Nat) (L S : List Value) (μ : pm_M) : pm_S := match S with
  | .int j :: .ref a :: r => match μ.2.2.2.1[a]? with
    | some (c, len) => if c = 23 ∧ 0 ≤ j.toInt ∧ j.toInt < len then (match μ.2.2.1 a j.toNatClampNeg with
      | .ref b => some (n, L, .ref b :: r, μ)
      | _ => none) else none
    | none => none
  | _ => none
def pm_ias (c0 : Nat) (g : Int32 → Int32) (n : Nat) (L S : List Value) (μ : pm_M) : pm_S := match S with
  | .int x :: .int j :: .ref a :: r => match μ.2.2.2.1[a]? with
    | some (c, len) => if c = c0 ∧ 0 ≤ j.toInt ∧ j.toInt < len then some (n, L, r, (va_up μ.1 a (upd (μ.1 a) j.toNatClampNeg (g x)), μ.2)) else none
    | none => none
  | _ => none
def pm_las (n : Nat) (L S : List Value) (μ : pm_M) : pm_S := match S with
  | .long x :: .int j :: .ref a :: r => match μ.2.2.2.1[a]? with
    | some (c, len) => if c = 21 ∧ 0 ≤ j.toInt ∧ j.toInt < len then some (n, L, r, (μ.1, va_up μ.2.1 a (vp_updL (μ.2.1 a) j.toNatClampNeg x), μ.2.2)) else none
    | none => none
  | _ => none
def pm_al (X : (Nat → Int32) × Nat) (n : Nat) (L S : List Value) (μ : pm_M) : pm_S := match S with
  | .ref a :: r => match μ.2.2.2.1[a]? with
    | some (c, len) => if 20 ≤ c ∧ c ≤ 23 then some (n, L, .int (nI len) :: r, μ) else none
    | none => none
  | .retAddr 0 :: r => some (n, L, .int (nI X.2) :: r, μ)
  | .retAddr a :: r => match pm_tx[(a - 3) / 2]? with
    | some t => if 3 ≤ a ∧ a % 2 = 1 then some (n, L, .int (nI t.length) :: r, μ) else none
    | none => none
  | _ => none
/-- a new cell behind the others: zeros, nulls -/
def pm_mk (μ : pm_M) (c len : Nat) : pm_M := (va_up μ.1 μ.2.2.2.1.length (fun _ => 0), va_up μ.2.1 μ.2.2.2.1.length (fun _ => 0), va_up μ.2.2.1 μ.2.2.2.1.length (fun _ => .null), μ.2.2.2.1 ++ [(c, len)], μ.2.2.2.2)
def pm_ok (μ : pm_M) (len : Nat) : Bool := decide (μ.2.2.2.2 = 0) && decide (μ.2.2.2.1.length < 2000) && decide (pm_sm μ.2.2.2.1 + len ≤ 200000)
def pm_nw (k i n : Nat) (L S : List Value) (μ : pm_M) : pm_S := match pm_nc k i with
  | some (ci, nf) => if ci < 13 ∧ pm_ok μ nf = true then some (n, L, .ref μ.2.2.2.1.length :: S, pm_mk μ ci nf) else none
  | none => none
def pm_na (c n : Nat) (L S : List Value) (μ : pm_M) : pm_S := match S with
  | .int j :: r => if 0 ≤ j.toInt ∧ pm_ok μ j.toNatClampNeg = true then some (n, L, .ref μ.2.2.2.1.length :: r, pm_mk μ c j.toNatClampNeg) else none
  | _ => none
def pm_mkN (μ : pm_M) (len : Nat) : Nat → pm_M
  | 0 => μ
  | j + 1 => pm_mk (pm_mkN μ len j) 20 len
def pm_mn (k i n : Nat) (L S : List Value) (μ : pm_M) : pm_S := match S with
  | .int y :: .int x :: r => if k = 0 ∧ i = 11 ∧ 1 ≤ x.toInt ∧ 0 ≤ y.toInt ∧ μ.2.2.2.2 = 0 ∧ μ.2.2.2.1.length + 1 + x.toNatClampNeg < 2000 ∧ pm_sm μ.2.2.2.1 + x.toNatClampNeg + x.toNatClampNeg * y.toNatClampNeg ≤ 200000 then
      (match pm_mkN (pm_mk μ 23 x.toNatClampNeg) y.toNatClampNeg x.toNatClampNeg with
      | (I, J, P, T, e) => some (n, L, .ref μ.2.2.2.1.length :: r, (I, J, va_up P μ.2.2.2.1.length (fun q => if q < x.toNatClampNeg then .ref (μ.2.2.2.1.length + 1 + q) else .null), T, e))) else none
  | _ => none
def pm_is (k i n : Nat) (L S : List Value) (μ : pm_M) : pm_S := match S with
  | .ref _ :: r => if (k, i) ∈ pm_oil ∧ r.length ≤ 20 then some (n, L, r, μ) else none
  | _ => none
def pm_iv (k i n : Nat) (L S : List Value) (μ : pm_M) : pm_S := match S with
  | .int len :: .int dp :: .ref b :: .int sp :: .ref a :: r => match μ.2.2.2.1[a]?, μ.2.2.2.1[b]? with
    | some (ca, la), some (cb, lb) => if k = 11 ∧ i = 390 ∧ ca = 20 ∧ cb = 20 ∧ r.length ≤ 20 ∧ 0 ≤ sp.toInt ∧ 0 ≤ dp.toInt ∧ 0 ≤ len.toInt ∧ sp.toNatClampNeg + len.toNatClampNeg ≤ la ∧ dp.toNatClampNeg + len.toNatClampNeg ≤ lb then
        some (n, L, r, (va_up μ.1 b (va_cpy (μ.1 a) (μ.1 b) sp.toNatClampNeg dp.toNatClampNeg len.toNatClampNeg), μ.2)) else none
    | _, _ => none
  | _ => none
def pm_gs (k i n : Nat) (L S : List Value) (μ : pm_M) : pm_S := if k = 16 ∧ i = 38 then some (n, L, .int 1 :: S, μ) else if k = 16 ∧ i = 1053 then some (n, L, .retAddr 1 :: S, μ) else none
def pm_lc (k i n : Nat) (L S : List Value) (μ : pm_M) : pm_S := match pm_ct k i with
  | some (.int x) => some (n, L, .int x :: S, μ)
  | some (.retAddr x) => some (n, L, .retAddr x :: S, μ)
  | _ => none
def pm_lc2 (k i n : Nat) (L S : List Value) (μ : pm_M) : pm_S := match pm_ct k i with
  | some (.long x) => some (n, L, .long x :: S, μ)
  | _ => none
def pm_dp (n : Nat) (L S : List Value) (μ : pm_M) : pm_S := match S with
  | v :: r => if v.category = 1 then some (n, L, v :: v :: r, μ) else none
  | _ => none
def pm_dp2 (n : Nat) (L S : List Value) (μ : pm_M) : pm_S := match S with
  | v :: w :: r => if v.category = 1 ∧ w.category = 1 then some (n, L, v :: w :: v :: w :: r, μ) else none
  | _ => none
def pm_pp (n : Nat) (L S : List Value) (μ : pm_M) : pm_S := match S with
  | v :: r => if v.category = 1 then some (n, L, r, μ) else none
  | _ => none
/-- one instruction that is neither a call of a method, nor a return, nor a throw -/
def pm_step (X : (Nat → Int32) × Nat) (k : Nat) (ini : Bool) (ins : Instr) (pc n : Nat) (L S : List Value) (μ : pm_M) : pm_S := match ins with
  | .aload_n i => pm_ald i n L S μ
  | .aload i => pm_ald i n L S μ
  | .iload_n i => pm_ild i n L S μ
  | .iload i => pm_ild i n L S μ
  | .lload_n i => pm_lld i n L S μ
  | .lload i => pm_lld i n L S μ
  | .istore_n i => pm_ist i n L S μ
  | .istore i => pm_ist i n L S μ
  | .lstore_n i => pm_lst i n L S μ
  | .lstore i => pm_lst i n L S μ
  | .astore_n i => pm_ast i n L S μ
  | .astore i => pm_ast i n L S μ
  | .iinc i c => pm_inc i c n L S μ
  | .iconst c => some (n, L, .int (Int32.ofInt c) :: S, μ)
  | .bipush c => some (n, L, .int (Int8.ofInt c).toInt32 :: S, μ)
  | .sipush c => some (n, L, .int (Int16.ofInt c).toInt32 :: S, μ)
  | .lconst c => some (n, L, .long (Int64.ofNat (c : Nat)) :: S, μ)
  | .ldc i => pm_lc k i n L S μ
  | .ldc_w i => pm_lc k i n L S μ
  | .ldc2_w i => pm_lc2 k i n L S μ
  | .iadd => pm_ii (fun x y => x + y) n L S μ
  | .isub => pm_ii (fun x y => x - y) n L S μ
  | .imul => pm_ii (fun x y => x * y) n L S μ
  | .iand => pm_ii (fun x y => x &&& y) n L S μ
  | .ior => pm_ii (fun x y => x ||| y) n L S μ
  | .ishl => pm_ii (fun x y => x <<< (y &&& 31)) n L S μ
  | .ishr => pm_ii (fun x y => x >>> (y &&& 31)) n L S μ
  | .iushr => pm_ii (fun x y => (x.toUInt32 >>> (y.toUInt32 &&& Int32.toUInt32 31)).toInt32) n L S μ
  | .idiv => pm_id (fun x y => x / y) n L S μ
  | .irem => pm_id (fun x y => x - x / y * y) n L S μ
  | .ladd => pm_ll (fun x y => x + y) n L S μ
  | .lsub => pm_ll (fun x y => x - y) n L S μ
  | .lmul => pm_ll (fun x y => x * y) n L S μ
  | .land => pm_ll (fun x y => x &&& y) n L S μ
  | .ldiv => pm_ldv (fun x y => x / y) n L S μ
  | .lrem => pm_ldv (fun x y => x - x / y * y) n L S μ
  | .lshl => pm_li (fun x y => x <<< (y.toInt64 &&& 63)) n L S μ
  | .lshr => pm_li (fun x y => x >>> (y.toInt64 &&& 63)) n L S μ
  | .lcmp => match S with
    | .long y :: .long x :: r => some (n, L, .int (lg_cmp x y) :: r, μ)
    | _ => none
  | .lneg => match S with
    | .long x :: r => some (n, L, .long (-x) :: r, μ)
    | _ => none
  | .i2l => match S with
    | .int x :: r => some (n, L, .long x.toInt64 :: r, μ)
    | _ => none
  | .l2i => match S with
    | .long x :: r => some (n, L, .int x.toInt32 :: r, μ)
    | _ => none
  | .i2c => match S with
    | .int x :: r => some (n, L, .int (x.toUInt32 % 65536).toInt32 :: r, μ)
    | _ => none
  | .dup => pm_dp n L S μ
  | .dup2 => pm_dp2 n L S μ
  | .pop => pm_pp n L S μ
  | .ifCond c off => pm_b1 c off pc n L S μ
  | .if_icmp c off => pm_b2 c off pc n L S μ
  | .goto off => if (0 : Int) ≤ (pc : Int) + off then some (pm_to pc off, L, S, μ) else none
  | .tableswitch d lo hi offs => pm_sw (pm_tsw d lo hi offs) pc L S μ
  | .lookupswitch d ps => if (ps.toList.zip (ps.toList.drop 1)).all (fun (a, next) => a.1 < next.1) = true then pm_sw (fun x => some (Op.lookupswitch.offset ps.toList d x.toInt)) pc L S μ else none
  | .getfield i => pm_gf k i n L S μ
  | .putfield i => pm_pf k ini i n L S μ
  | .iaload => pm_ia X n L S μ
  | .baload => pm_ba n L S μ
  | .laload => pm_la n L S μ
  | .aaload => pm_aa n L S μ
  | .iastore => pm_ias 20 (fun x => x) n L S μ
  | .bastore => pm_ias 22 (fun x => vp_nar .boolean x) n L S μ
  | .lastore => pm_las n L S μ
  | .arraylength => pm_al X n L S μ
  | .new i => pm_nw k i n L S μ
  | .newarray .int => pm_na 20 n L S μ
  | .newarray .long => pm_na 21 n L S μ
  | .newarray .boolean => pm_na 22 n L S μ
  | .multianewarray i 2 => pm_mn k i n L S μ
  | .invokespecial i => pm_is k i n L S μ
  | .invokestatic i => pm_iv k i n L S μ
  | .getstatic i => pm_gs k i n L S μ
  | _ => none
/-- the locals at a method's entry -/
def pm_ent : List Value → List Value
  | [] => []
  | v :: t => match v with
    | .long x => .long x :: pm_jk :: pm_ent t
    | w => w :: pm_ent t
def pm_en (m : Nat) (args : List Value) : List Value := pm_ent args ++ List.replicate (pm_ml m - (pm_ent args).length) pm_jk
def pm_rv (m : Nat) (v : Value) : Bool := match pm_rt m, v with
  | some .int, .int _ => true
  | some .boolean, .int x => decide (x = 0) || decide (x = 1)
  | some .char, .int x => decide (0 ≤ x.toInt) && decide (x.toInt ≤ 65535)
  | some .byte, .int x => decide (x = 0)
  | some .long, .long _ => true
  | some (.object _), .ref _ => true
  | _, _ => false
/-- the throws of the program: the five instructions at a place; 1: no such element, 2: illegal argument -/
def pm_tw (m pc : Nat) : Option (Nat × Nat × Nat × Nat) := pm_twl.lookup (m, pc)
