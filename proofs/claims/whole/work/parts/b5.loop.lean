/-! THE LAW'S LOOP -/
theorem and63 (x : Int32) : ∃ m, m < 64 ∧ x &&& 63 = nI m := by
  refine ⟨x.toBitVec.toNat % 64, Nat.mod_lt _ (by omega), ?_⟩
  apply Int32.toBitVec_inj.mp
  apply BitVec.eq_of_toNat_eq
  have e2 : (nI (x.toBitVec.toNat % 64)).toBitVec.toNat = (x.toBitVec.toNat % 64) % 2 ^ 32 := BitVec.toNat_ofNat ..
  rw [e2, Int32.toBitVec_and, BitVec.toNat_and]
  have e : x.toBitVec.toNat &&& (2 ^ 6 - 1) = x.toBitVec.toNat % 2 ^ 6 := Nat.and_two_pow_sub_one_eq_mod ..
  have e3 : x.toBitVec.toNat &&& (63 : Int32).toBitVec.toNat = x.toBitVec.toNat % 2 ^ 6 := e
  rw [e3]
  omega
theorem len7 {n : Nat} (h : n < 10000) : (nI n - 7).toInt = (n : Int) - 7 := by
  rw [Int32.toInt_sub, nI_toInt (by omega), show ((7 : Int32)).toInt = 7 from by decide, Int.bmod_eq_of_le (by omega) (by omega)]
section Le
variable {X : (Nat → Int32) × Nat} {d : Nat}
theorem pre361 {i m : Nat} {μ ν : pm_M} {r : pm_R} {x1 x2 x3 : Value} {l : List Value} (hX : X.2 ≤ 3584) (hi : i + 6 < X.2) (hx : X.1 i &&& 63 = nI m) (kk : pm_Fx X (d + 60) 361 40 (.retAddr 0 :: x1 :: x2 :: x3 :: .int (nI i) :: l) [.int (nI m)] μ r ν) : pm_Fx X (d + 60) 361 23 (.retAddr 0 :: x1 :: x2 :: x3 :: .int (nI i) :: l) [] μ r ν := by
  refine il4 c361_23 ?_
  refine az0 c361_25 ?_
  refine r_lez c361_26 ?_
  refine r_bi c361_27 kB7 ?_
  refine r_isub c361_29 ?_
  refine r_icgt (t := 2582) c361_30 rfl (fun h => absurd h (by rw [len7 (by omega), nI_toInt (by omega)]; omega)) (fun _ => ?_)
  refine az0 c361_33 ?_
  refine il4 c361_34 ?_
  refine r_iz c361_36 (by rw [nI_toInt (by omega)]; omega) (by rw [nI_toInt (by omega)]; omega) ?_
  rw [nI_clamp (by omega)]
  refine r_bi c361_37 kB63 ?_
  refine r_iand c361_39 ?_
  rw [hx]
  exact kk
theorem end361 {i : Nat} {μ : pm_M} {x1 x2 x3 : Value} {l : List Value} (hX : X.2 ≤ 3584) (h5 : i < 5000) (hi : ¬ i + 6 < X.2) : pm_Fx X (d + 60) 361 23 (.retAddr 0 :: x1 :: x2 :: x3 :: .int (nI i) :: l) [] μ (.inl (some (.int 1))) μ := by
  refine il4 c361_23 ?_
  refine az0 c361_25 ?_
  refine r_lez c361_26 ?_
  refine r_bi c361_27 kB7 ?_
  refine r_isub c361_29 ?_
  refine r_icgt (t := 2582) c361_30 rfl (fun _ => ?_) (fun h => absurd h (by rw [len7 (by omega), nI_toInt (by omega)]; omega))
  refine r_ic c361_2582 kI1 ?_
  exact r_rz c361_2583 rt361 (.inr rfl) rfl rfl
theorem hd361 (hX : X.2 ≤ 3584) : ∀ m i e (I : Nat → Nat → Int32) (J : Nat → Nat → Int64) (P : Nat → Nat → Value) (r k r2 k2 : Nat) (z5 z6 z7 : Value), X.2 ≤ i + m → e ≤ i → i ≤ 4000 → pm_W P r k r2 k2 → pm_prs r r2 k k2 → pm_RR r k I → ∃ ν, pm_Fx X (d + 60) 361 23 [.retAddr 0, .ref 0, .ref 127, .ref 157, .int (nI i), z5, z6, z7] [] (I, J, P, pm_T0, e) (.inl (some (.int 1))) ν := by
  intro m
  induction m with
  | zero =>
    intro i e I J P r k r2 k2 z5 z6 z7 hm he h4 hw hp hR
    exact ⟨_, end361 hX (by omega) (by omega)⟩
  | succ m ih =>
    intro i e I J P r k r2 k2 z5 z6 z7 hm he h4 hw hp hR
    by_cases hi : i + 6 < X.2
    · have nx : ∀ e', e' ≤ i + 7 → pm_NX X d i e' := by
        intro e' he' I J P r k r2 k2 z5 z6 z7 hw hp hR
        obtain ⟨ν, kk⟩ := ih (i + 7) e' I J P r k r2 k2 z5 z6 z7 (by omega) he' (by omega) hw hp hR
        refine ⟨ν, ?_⟩
        refine ii4 c361_2576 kI7 rfl ?_
        refine r_go (t := 23) c361_2579 rfl ?_
        rw [show nI i + 7 = nI (i + 7) from nI_add ..]
        exact kk
      have n0 := nx e (by omega)
      have n1 := nx (e + 1) (by omega)
      have e1 : e < 100000 := by omega
      have hX1 : X.2 < 2147483648 := by omega
      obtain ⟨c, hc, hx⟩ := and63 (X.1 i)
      match c, hc, hx with
      | 0, _, hx =>
        obtain ⟨ν, kk⟩ := T361_0 (J := J) (z5 := z5) (z6 := z6) (z7 := z7) hw hp hR e1 hX1 hi n0 n1
        exact ⟨ν, pre361 hX hi hx (r_ts (t := 220) (o := 180) c361_40 rfl rfl kk)⟩
      | 1, _, hx =>
        obtain ⟨ν, kk⟩ := T361_1 (J := J) (z5 := z5) (z6 := z6) (z7 := z7) hw hp hR e1 hX1 hi n0 n1
        exact ⟨ν, pre361 hX hi hx (r_ts (t := 293) (o := 253) c361_40 rfl rfl kk)⟩
      | 2, _, hx =>
        obtain ⟨ν, kk⟩ := T361_2 (J := J) (z5 := z5) (z6 := z6) (z7 := z7) hw hp hR e1 hX1 hi n0 n1
        exact ⟨ν, pre361 hX hi hx (r_ts (t := 349) (o := 309) c361_40 rfl rfl kk)⟩
      | 3, _, hx =>
        obtain ⟨ν, kk⟩ := T361_3 (J := J) (z5 := z5) (z6 := z6) (z7 := z7) hw hp hR e1 hX1 hi n0 n1
        exact ⟨ν, pre361 hX hi hx (r_ts (t := 417) (o := 377) c361_40 rfl rfl kk)⟩
      | 4, _, hx =>
        obtain ⟨ν, kk⟩ := T361_4 (J := J) (z5 := z5) (z6 := z6) (z7 := z7) hw hp hR e1 hX1 hi n0 n1
        exact ⟨ν, pre361 hX hi hx (r_ts (t := 473) (o := 433) c361_40 rfl rfl kk)⟩
      | 5, _, hx =>
        obtain ⟨ν, kk⟩ := T361_5 (J := J) (z5 := z5) (z6 := z6) (z7 := z7) hw hp hR e1 hX1 hi n0 n1
        exact ⟨ν, pre361 hX hi hx (r_ts (t := 529) (o := 489) c361_40 rfl rfl kk)⟩
      | 6, _, hx =>
        obtain ⟨ν, kk⟩ := T361_6 (J := J) (z5 := z5) (z6 := z6) (z7 := z7) hw hp hR e1 hX1 hi n0 n1
        exact ⟨ν, pre361 hX hi hx (r_ts (t := 542) (o := 502) c361_40 rfl rfl kk)⟩
      | 7, _, hx =>
        obtain ⟨ν, kk⟩ := T361_7 (J := J) (z5 := z5) (z6 := z6) (z7 := z7) hw hp hR e1 hX1 hi n0 n1
        exact ⟨ν, pre361 hX hi hx (r_ts (t := 555) (o := 515) c361_40 rfl rfl kk)⟩
      | 8, _, hx =>
        obtain ⟨ν, kk⟩ := T361_8 (J := J) (z5 := z5) (z6 := z6) (z7 := z7) hw hp hR e1 hX1 hi n0 n1
        exact ⟨ν, pre361 hX hi hx (r_ts (t := 611) (o := 571) c361_40 rfl rfl kk)⟩
      | 9, _, hx =>
        obtain ⟨ν, kk⟩ := T361_9 (J := J) (z5 := z5) (z6 := z6) (z7 := z7) hw hp hR e1 hX1 hi n0 n1
        exact ⟨ν, pre361 hX hi hx (r_ts (t := 679) (o := 639) c361_40 rfl rfl kk)⟩
      | 10, _, hx =>
        obtain ⟨ν, kk⟩ := T361_10 (J := J) (z5 := z5) (z6 := z6) (z7 := z7) hw hp hR e1 hX1 hi n0 n1
        exact ⟨ν, pre361 hX hi hx (r_ts (t := 747) (o := 707) c361_40 rfl rfl kk)⟩
      | 11, _, hx =>
        obtain ⟨ν, kk⟩ := T361_11 (J := J) (z5 := z5) (z6 := z6) (z7 := z7) hw hp hR e1 hX1 hi n0 n1
        exact ⟨ν, pre361 hX hi hx (r_ts (t := 815) (o := 775) c361_40 rfl rfl kk)⟩
      | 12, _, hx =>
        obtain ⟨ν, kk⟩ := T361_12 (J := J) (z5 := z5) (z6 := z6) (z7 := z7) hw hp hR e1 hX1 hi n0 n1
        exact ⟨ν, pre361 hX hi hx (r_ts (t := 871) (o := 831) c361_40 rfl rfl kk)⟩
      | 13, _, hx =>
        obtain ⟨ν, kk⟩ := T361_13 (J := J) (z5 := z5) (z6 := z6) (z7 := z7) hw hp hR e1 hX1 hi n0 n1
        exact ⟨ν, pre361 hX hi hx (r_ts (t := 989) (o := 949) c361_40 rfl rfl kk)⟩
      | 14, _, hx =>
        obtain ⟨ν, kk⟩ := T361_14 (J := J) (z5 := z5) (z6 := z6) (z7 := z7) hw hp hR e1 hX1 hi n0 n1
        exact ⟨ν, pre361 hX hi hx (r_ts (t := 1002) (o := 962) c361_40 rfl rfl kk)⟩
      | 15, _, hx =>
        obtain ⟨ν, kk⟩ := T361_15 (J := J) (z5 := z5) (z6 := z6) (z7 := z7) hw hp hR e1 hX1 hi n0 n1
        exact ⟨ν, pre361 hX hi hx (r_ts (t := 1058) (o := 1018) c361_40 rfl rfl kk)⟩
      | 16, _, hx =>
        obtain ⟨ν, kk⟩ := T361_16 (J := J) (z5 := z5) (z6 := z6) (z7 := z7) hw hp hR e1 hX1 hi n0 n1
        exact ⟨ν, pre361 hX hi hx (r_ts (t := 1114) (o := 1074) c361_40 rfl rfl kk)⟩
      | 17, _, hx =>
        obtain ⟨ν, kk⟩ := T361_17 (J := J) (z5 := z5) (z6 := z6) (z7 := z7) hw hp hR e1 hX1 hi n0 n1
        exact ⟨ν, pre361 hX hi hx (r_ts (t := 1182) (o := 1142) c361_40 rfl rfl kk)⟩
      | 18, _, hx =>
        obtain ⟨ν, kk⟩ := T361_18 (J := J) (z5 := z5) (z6 := z6) (z7 := z7) hw hp hR e1 hX1 hi n0 n1
        exact ⟨ν, pre361 hX hi hx (r_ts (t := 1250) (o := 1210) c361_40 rfl rfl kk)⟩
      | 19, _, hx =>
        obtain ⟨ν, kk⟩ := T361_19 (J := J) (z5 := z5) (z6 := z6) (z7 := z7) hw hp hR e1 hX1 hi n0 n1
        exact ⟨ν, pre361 hX hi hx (r_ts (t := 1306) (o := 1266) c361_40 rfl rfl kk)⟩
      | 20, _, hx =>
        obtain ⟨ν, kk⟩ := T361_20 (J := J) (z5 := z5) (z6 := z6) (z7 := z7) hw hp hR e1 hX1 hi n0 n1
        exact ⟨ν, pre361 hX hi hx (r_ts (t := 1362) (o := 1322) c361_40 rfl rfl kk)⟩
      | 21, _, hx =>
        obtain ⟨ν, kk⟩ := T361_21 (J := J) (z5 := z5) (z6 := z6) (z7 := z7) hw hp hR e1 hX1 hi n0 n1
        exact ⟨ν, pre361 hX hi hx (r_ts (t := 1375) (o := 1335) c361_40 rfl rfl kk)⟩
      | 22, _, hx =>
        obtain ⟨ν, kk⟩ := T361_22 (J := J) (z5 := z5) (z6 := z6) (z7 := z7) hw hp hR e1 hX1 hi n0 n1
        exact ⟨ν, pre361 hX hi hx (r_ts (t := 1431) (o := 1391) c361_40 rfl rfl kk)⟩
      | 23, _, hx =>
        obtain ⟨ν, kk⟩ := T361_23 (J := J) (z5 := z5) (z6 := z6) (z7 := z7) hw hp hR e1 hX1 hi n0 n1
        exact ⟨ν, pre361 hX hi hx (r_ts (t := 1487) (o := 1447) c361_40 rfl rfl kk)⟩
      | 24, _, hx =>
        obtain ⟨ν, kk⟩ := T361_24 (J := J) (z5 := z5) (z6 := z6) (z7 := z7) hw hp hR e1 hX1 hi n0 n1
        exact ⟨ν, pre361 hX hi hx (r_ts (t := 1550) (o := 1510) c361_40 rfl rfl kk)⟩
      | 25, _, hx =>
        obtain ⟨ν, kk⟩ := T361_25 (J := J) (z5 := z5) (z6 := z6) (z7 := z7) hw hp hR e1 hX1 hi n0 n1
        exact ⟨ν, pre361 hX hi hx (r_ts (t := 1606) (o := 1566) c361_40 rfl rfl kk)⟩
      | 26, _, hx =>
        obtain ⟨ν, kk⟩ := T361_26 (J := J) (z5 := z5) (z6 := z6) (z7 := z7) hw hp hR e1 hX1 hi n0 n1
        exact ⟨ν, pre361 hX hi hx (r_ts (t := 1662) (o := 1622) c361_40 rfl rfl kk)⟩
      | 27, _, hx =>
        obtain ⟨ν, kk⟩ := T361_27 (J := J) (z5 := z5) (z6 := z6) (z7 := z7) hw hp hR e1 hX1 hi n0 n1
        exact ⟨ν, pre361 hX hi hx (r_ts (t := 1675) (o := 1635) c361_40 rfl rfl kk)⟩
      | 28, _, hx =>
        obtain ⟨ν, kk⟩ := T361_28 (J := J) (z5 := z5) (z6 := z6) (z7 := z7) hw hp hR e1 hX1 hi n0 n1
        exact ⟨ν, pre361 hX hi hx (r_ts (t := 1743) (o := 1703) c361_40 rfl rfl kk)⟩
      | 29, _, hx =>
        obtain ⟨ν, kk⟩ := T361_29 (J := J) (z5 := z5) (z6 := z6) (z7 := z7) hw hp hR e1 hX1 hi n0 n1
        exact ⟨ν, pre361 hX hi hx (r_ts (t := 1811) (o := 1771) c361_40 rfl rfl kk)⟩
      | 30, _, hx =>
        obtain ⟨ν, kk⟩ := T361_30 (J := J) (z5 := z5) (z6 := z6) (z7 := z7) hw hp hR e1 hX1 hi n0 n1
        exact ⟨ν, pre361 hX hi hx (r_ts (t := 1890) (o := 1850) c361_40 rfl rfl kk)⟩
      | 31, _, hx =>
        obtain ⟨ν, kk⟩ := T361_31 (J := J) (z5 := z5) (z6 := z6) (z7 := z7) hw hp hR e1 hX1 hi n0 n1
        exact ⟨ν, pre361 hX hi hx (r_ts (t := 1958) (o := 1918) c361_40 rfl rfl kk)⟩
      | 32, _, hx =>
        obtain ⟨ν, kk⟩ := T361_32 (J := J) (z5 := z5) (z6 := z6) (z7 := z7) hw hp hR e1 hX1 hi n0 n1
        exact ⟨ν, pre361 hX hi hx (r_ts (t := 2038) (o := 1998) c361_40 rfl rfl kk)⟩
      | 33, _, hx =>
        obtain ⟨ν, kk⟩ := T361_33 (J := J) (z5 := z5) (z6 := z6) (z7 := z7) hw hp hR e1 hX1 hi n0 n1
        exact ⟨ν, pre361 hX hi hx (r_ts (t := 2106) (o := 2066) c361_40 rfl rfl kk)⟩
      | 34, _, hx =>
        obtain ⟨ν, kk⟩ := T361_34 (J := J) (z5 := z5) (z6 := z6) (z7 := z7) hw hp hR e1 hX1 hi n0 n1
        exact ⟨ν, pre361 hX hi hx (r_ts (t := 2198) (o := 2158) c361_40 rfl rfl kk)⟩
      | 35, _, hx =>
        obtain ⟨ν, kk⟩ := T361_35 (J := J) (z5 := z5) (z6 := z6) (z7 := z7) hw hp hR e1 hX1 hi n0 n1
        exact ⟨ν, pre361 hX hi hx (r_ts (t := 2278) (o := 2238) c361_40 rfl rfl kk)⟩
      | 36, _, hx =>
        obtain ⟨ν, kk⟩ := T361_36 (J := J) (z5 := z5) (z6 := z6) (z7 := z7) hw hp hR e1 hX1 hi n0 n1
        exact ⟨ν, pre361 hX hi hx (r_ts (t := 2382) (o := 2342) c361_40 rfl rfl kk)⟩
      | 37, _, hx =>
        obtain ⟨ν, kk⟩ := T361_37 (J := J) (z5 := z5) (z6 := z6) (z7 := z7) hw hp hR e1 hX1 hi n0 n1
        exact ⟨ν, pre361 hX hi hx (r_ts (t := 2500) (o := 2460) c361_40 rfl rfl kk)⟩
      | 38, _, hx =>
        obtain ⟨ν, kk⟩ := T361_38 (J := J) (z5 := z5) (z6 := z6) (z7 := z7) hw hp hR e1 hX1 hi n0 n1
        exact ⟨ν, pre361 hX hi hx (r_ts (t := 2513) (o := 2473) c361_40 rfl rfl kk)⟩
      | 39, _, hx =>
        obtain ⟨ν, kk⟩ := T361_39 (J := J) (z5 := z5) (z6 := z6) (z7 := z7) hw hp hR e1 hX1 hi n0 n1
        exact ⟨ν, pre361 hX hi hx (r_ts (t := 2526) (o := 2486) c361_40 rfl rfl kk)⟩
      | 40, _, hx =>
        obtain ⟨ν, kk⟩ := T361_40 (J := J) (z5 := z5) (z6 := z6) (z7 := z7) hw hp hR e1 hX1 hi n0 n1
        exact ⟨ν, pre361 hX hi hx (r_ts (t := 2551) (o := 2511) c361_40 rfl rfl kk)⟩
      | c + 41, hc, hx =>
        obtain ⟨ν, kk⟩ := n0 I J P r k r2 k2 z5 z6 z7 hw hp hR
        exact ⟨ν, pre361 hX hi hx (r_ts (t := 2576) (o := 2536) c361_40 (if_pos (.inr (by rw [nI_toInt (by omega)]; omega))) rfl kk)⟩
    · exact ⟨_, end361 hX (by omega) hi⟩
end Le
