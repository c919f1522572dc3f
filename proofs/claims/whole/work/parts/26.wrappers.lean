/-! THE LAW'S WRAPPERS -/
theorem d330a {X : (Nat → Int32) × Nat} {d : Nat} {I I1 : Nat → Nat → Int32} {J J1 : Nat → Nat → Int64} {P : Nat → Nat → Value} {e r k r2 k2 : Nat} {x1 : Int32} {v : Int32 × Bool} (hw : pm_W P r k r2 k2) (he : e < 100000) (h : f172 k r2 x1 I J = some (.inl v, I1, J1)) : pm_Fn X (d + 10) 330 0 [.ref 0, .int x1, .ref 157] (I, J, P, pm_T0, e) (.inl (some (.int 0))) (I1, pm_wl J1 157 0 v.1.toInt64, (pm_rP P r r2 (.inl v)), pm_T0, e) := by
  refine fn_s ml330 rfl rfl rfl ?_
  refine al2 c330_0 ?_
  refine r_ic c330_1 kI0 ?_
  refine al0 c330_2 ?_
  refine il1 c330_3 ?_
  refine cv2 q330_4 (v := .int v.1) (μ1 := (I1, J1, (pm_rP P r r2 (.inl v)), pm_T0, e)) (d172 hw he h) rfl ?_
  refine r_i2l c330_7 ?_
  refine w_lst c330_8 rfl (by decide) ?_
  refine r_go (t := 15) c330_9 rfl ?_
  refine r_ic c330_15 kI0 ?_
  exact r_ri c330_16 rt330 rfl rfl
theorem d330b2 {X : (Nat → Int32) × Nat} {d : Nat} {I I1 : Nat → Nat → Int32} {J J1 : Nat → Nat → Int64} {P : Nat → Nat → Value} {e r k r2 k2 : Nat} {x1 : Int32} (hw : pm_W P r k r2 k2) (he : e < 100000) (h : f172 k r2 x1 I J = some (.inr 2, I1, J1)) : pm_Fn X (d + 10) 330 0 [.ref 0, .int x1, .ref 157] (I, J, P, pm_T0, e) (.inl (some (.int 1))) (I1, J1, P, pm_T0, e + 1) := by
  refine fn_s ml330 rfl rfl rfl ?_
  refine al2 c330_0 ?_
  refine r_ic c330_1 kI0 ?_
  refine al0 c330_2 ?_
  refine il1 c330_3 ?_
  refine fx_catch (as := [.ref 0, .int x1]) (S' := [.int 0, .ref 157]) (t := 2) (h9 := 12) (i9 := 3) (μ1 := (I1, J1, P, pm_T0, e + 1)) q330_4 rfl rfl rfl (by decide) k330 (by decide +kernel) c330_12 rfl (Nat.le_of_ble_eq_true rfl) (d172 hw he h) ?_
  refine r_ic c330_13 kI1 ?_
  exact r_ri c330_14 rt330 rfl rfl
theorem d331a {X : (Nat → Int32) × Nat} {d : Nat} {I I1 : Nat → Nat → Int32} {J J1 : Nat → Nat → Int64} {P : Nat → Nat → Value} {e r k r2 k2 : Nat} {x1 x2 : Int32} {v : Int32} (hw : pm_W P r k r2 k2) (he : e < 100000) (h : f175 x1 x2 I J = some (.inl v, I1, J1)) : pm_Fn X (d + 50) 331 0 [.ref 0, .int x1, .int x2, .ref 157] (I, J, P, pm_T0, e) (.inl (some (.int 0))) (I1, pm_wl J1 157 0 v.toInt64, P, pm_T0, e) := by
  refine fn_s ml331 rfl rfl rfl ?_
  refine al3 c331_0 ?_
  refine r_ic c331_1 kI0 ?_
  refine al0 c331_2 ?_
  refine il1 c331_3 ?_
  refine il2 c331_4 ?_
  refine cv3 q331_5 (v := .int v) (μ1 := (I1, J1, P, pm_T0, e)) (d175 hw he h) rfl ?_
  refine r_i2l c331_8 ?_
  refine w_lst c331_9 rfl (by decide) ?_
  refine r_go (t := 17) c331_10 rfl ?_
  refine r_ic c331_17 kI0 ?_
  exact r_ri c331_18 rt331 rfl rfl
theorem d331b2 {X : (Nat → Int32) × Nat} {d : Nat} {I I1 : Nat → Nat → Int32} {J J1 : Nat → Nat → Int64} {P : Nat → Nat → Value} {e r k r2 k2 : Nat} {x1 x2 : Int32} (hw : pm_W P r k r2 k2) (he : e < 100000) (h : f175 x1 x2 I J = some (.inr 2, I1, J1)) : pm_Fn X (d + 50) 331 0 [.ref 0, .int x1, .int x2, .ref 157] (I, J, P, pm_T0, e) (.inl (some (.int 1))) (I1, J1, P, pm_T0, e + 1) := by
  refine fn_s ml331 rfl rfl rfl ?_
  refine al3 c331_0 ?_
  refine r_ic c331_1 kI0 ?_
  refine al0 c331_2 ?_
  refine il1 c331_3 ?_
  refine il2 c331_4 ?_
  refine fx_catch (as := [.ref 0, .int x1, .int x2]) (S' := [.int 0, .ref 157]) (t := 2) (h9 := 13) (i9 := 4) (μ1 := (I1, J1, P, pm_T0, e + 1)) q331_5 rfl rfl rfl (by decide) k331 (by decide +kernel) c331_13 rfl (Nat.le_of_ble_eq_true rfl) (d175 hw he h) ?_
  refine r_ic c331_15 kI1 ?_
  exact r_ri c331_16 rt331 rfl rfl
theorem d332a {X : (Nat → Int32) × Nat} {d : Nat} {I I1 : Nat → Nat → Int32} {J J1 : Nat → Nat → Int64} {P : Nat → Nat → Value} {e r k r2 k2 : Nat} {x1 : Int32} {v : Int32} (hw : pm_W P r k r2 k2) (he : e < 100000) (h : f176 r x1 I J = some (.inl v, I1, J1)) : pm_Fn X (d + 50) 332 0 [.ref 0, .int x1, .ref 157] (I, J, P, pm_T0, e) (.inl (some (.int 0))) (I1, pm_wl J1 157 0 v.toInt64, P, pm_T0, e) := by
  refine fn_s ml332 rfl rfl rfl ?_
  refine al2 c332_0 ?_
  refine r_ic c332_1 kI0 ?_
  refine al0 c332_2 ?_
  refine il1 c332_3 ?_
  refine cv2 q332_4 (v := .int v) (μ1 := (I1, J1, P, pm_T0, e)) (d176 hw he h) rfl ?_
  refine r_i2l c332_7 ?_
  refine w_lst c332_8 rfl (by decide) ?_
  refine r_go (t := 15) c332_9 rfl ?_
  refine r_ic c332_15 kI0 ?_
  exact r_ri c332_16 rt332 rfl rfl
theorem d332b2 {X : (Nat → Int32) × Nat} {d : Nat} {I I1 : Nat → Nat → Int32} {J J1 : Nat → Nat → Int64} {P : Nat → Nat → Value} {e r k r2 k2 : Nat} {x1 : Int32} (hw : pm_W P r k r2 k2) (he : e < 100000) (h : f176 r x1 I J = some (.inr 2, I1, J1)) : pm_Fn X (d + 50) 332 0 [.ref 0, .int x1, .ref 157] (I, J, P, pm_T0, e) (.inl (some (.int 1))) (I1, J1, P, pm_T0, e + 1) := by
  refine fn_s ml332 rfl rfl rfl ?_
  refine al2 c332_0 ?_
  refine r_ic c332_1 kI0 ?_
  refine al0 c332_2 ?_
  refine il1 c332_3 ?_
  refine fx_catch (as := [.ref 0, .int x1]) (S' := [.int 0, .ref 157]) (t := 2) (h9 := 12) (i9 := 3) (μ1 := (I1, J1, P, pm_T0, e + 1)) q332_4 rfl rfl rfl (by decide) k332 (by decide +kernel) c332_12 rfl (Nat.le_of_ble_eq_true rfl) (d176 hw he h) ?_
  refine r_ic c332_13 kI1 ?_
  exact r_ri c332_14 rt332 rfl rfl
theorem d333a {X : (Nat → Int32) × Nat} {d : Nat} {I I1 : Nat → Nat → Int32} {J J1 : Nat → Nat → Int64} {P : Nat → Nat → Value} {e r k r2 k2 : Nat} {x1 : Int32} {v : Int32 × Bool} (hw : pm_W P r k r2 k2) (he : e < 100000) (h : f177 k2 x1 I J = some (.inl v, I1, J1)) : pm_Fn X (d + 6) 333 0 [.ref 0, .int x1, .ref 157] (I, J, P, pm_T0, e) (.inl (some (.int 0))) (I1, pm_wl J1 157 0 v.1.toInt64, (pm_bP P k k2 (.inl v)), pm_T0, e) := by
  refine fn_s ml333 rfl rfl rfl ?_
  refine al2 c333_0 ?_
  refine r_ic c333_1 kI0 ?_
  refine al0 c333_2 ?_
  refine il1 c333_3 ?_
  refine cv2 q333_4 (v := .int v.1) (μ1 := (I1, J1, (pm_bP P k k2 (.inl v)), pm_T0, e)) (d177 hw he h) rfl ?_
  refine r_i2l c333_7 ?_
  refine w_lst c333_8 rfl (by decide) ?_
  refine r_go (t := 15) c333_9 rfl ?_
  refine r_ic c333_15 kI0 ?_
  exact r_ri c333_16 rt333 rfl rfl
theorem d333b2 {X : (Nat → Int32) × Nat} {d : Nat} {I I1 : Nat → Nat → Int32} {J J1 : Nat → Nat → Int64} {P : Nat → Nat → Value} {e r k r2 k2 : Nat} {x1 : Int32} (hw : pm_W P r k r2 k2) (he : e < 100000) (h : f177 k2 x1 I J = some (.inr 2, I1, J1)) : pm_Fn X (d + 6) 333 0 [.ref 0, .int x1, .ref 157] (I, J, P, pm_T0, e) (.inl (some (.int 1))) (I1, J1, P, pm_T0, e + 1) := by
  refine fn_s ml333 rfl rfl rfl ?_
  refine al2 c333_0 ?_
  refine r_ic c333_1 kI0 ?_
  refine al0 c333_2 ?_
  refine il1 c333_3 ?_
  refine fx_catch (as := [.ref 0, .int x1]) (S' := [.int 0, .ref 157]) (t := 2) (h9 := 12) (i9 := 3) (μ1 := (I1, J1, P, pm_T0, e + 1)) q333_4 rfl rfl rfl (by decide) k333 (by decide +kernel) c333_12 rfl (Nat.le_of_ble_eq_true rfl) (d177 hw he h) ?_
  refine r_ic c333_13 kI1 ?_
  exact r_ri c333_14 rt333 rfl rfl
theorem d334a {X : (Nat → Int32) × Nat} {d : Nat} {I I1 : Nat → Nat → Int32} {J J1 : Nat → Nat → Int64} {P : Nat → Nat → Value} {e r k r2 k2 : Nat} {x1 : Int32} {v : Int32} (hw : pm_W P r k r2 k2) (he : e < 100000) (h : f178 r k x1 I J = some (.inl v, I1, J1)) : pm_Fn X (d + 5) 334 0 [.ref 0, .int x1, .ref 157] (I, J, P, pm_T0, e) (.inl (some (.int 0))) (I1, pm_wl J1 157 0 v.toInt64, P, pm_T0, e) := by
  refine fn_s ml334 rfl rfl rfl ?_
  refine al2 c334_0 ?_
  refine r_ic c334_1 kI0 ?_
  refine al0 c334_2 ?_
  refine il1 c334_3 ?_
  refine cv2 q334_4 (v := .int v) (μ1 := (I1, J1, P, pm_T0, e)) (d178 hw he h) rfl ?_
  refine r_i2l c334_7 ?_
  refine w_lst c334_8 rfl (by decide) ?_
  refine r_go (t := 15) c334_9 rfl ?_
  refine r_ic c334_15 kI0 ?_
  exact r_ri c334_16 rt334 rfl rfl
theorem d334b2 {X : (Nat → Int32) × Nat} {d : Nat} {I I1 : Nat → Nat → Int32} {J J1 : Nat → Nat → Int64} {P : Nat → Nat → Value} {e r k r2 k2 : Nat} {x1 : Int32} (hw : pm_W P r k r2 k2) (he : e < 100000) (h : f178 r k x1 I J = some (.inr 2, I1, J1)) : pm_Fn X (d + 5) 334 0 [.ref 0, .int x1, .ref 157] (I, J, P, pm_T0, e) (.inl (some (.int 1))) (I1, J1, P, pm_T0, e + 1) := by
  refine fn_s ml334 rfl rfl rfl ?_
  refine al2 c334_0 ?_
  refine r_ic c334_1 kI0 ?_
  refine al0 c334_2 ?_
  refine il1 c334_3 ?_
  refine fx_catch (as := [.ref 0, .int x1]) (S' := [.int 0, .ref 157]) (t := 2) (h9 := 12) (i9 := 3) (μ1 := (I1, J1, P, pm_T0, e + 1)) q334_4 rfl rfl rfl (by decide) k334 (by decide +kernel) c334_12 rfl (Nat.le_of_ble_eq_true rfl) (d178 hw he h) ?_
  refine r_ic c334_13 kI1 ?_
  exact r_ri c334_14 rt334 rfl rfl
theorem d335a {X : (Nat → Int32) × Nat} {d : Nat} {I I1 : Nat → Nat → Int32} {J J1 : Nat → Nat → Int64} {P : Nat → Nat → Value} {e r k r2 k2 : Nat} {x1 x2 : Int32} {v : Int32} (hw : pm_W P r k r2 k2) (he : e < 100000) (h : f179 r x1 x2 I J = some (.inl v, I1, J1)) : pm_Fn X (d + 3) 335 0 [.ref 0, .int x1, .int x2, .ref 157] (I, J, P, pm_T0, e) (.inl (some (.int 0))) (I1, pm_wl J1 157 0 v.toInt64, P, pm_T0, e) := by
  refine fn_s ml335 rfl rfl rfl ?_
  refine al3 c335_0 ?_
  refine r_ic c335_1 kI0 ?_
  refine al0 c335_2 ?_
  refine il1 c335_3 ?_
  refine il2 c335_4 ?_
  refine cv3 q335_5 (v := .int v) (μ1 := (I1, J1, P, pm_T0, e)) (d179 hw he h) rfl ?_
  refine r_i2l c335_8 ?_
  refine w_lst c335_9 rfl (by decide) ?_
  refine r_go (t := 21) c335_10 rfl ?_
  refine r_ic c335_21 kI0 ?_
  exact r_ri c335_22 rt335 rfl rfl
theorem d335b1 {X : (Nat → Int32) × Nat} {d : Nat} {I I1 : Nat → Nat → Int32} {J J1 : Nat → Nat → Int64} {P : Nat → Nat → Value} {e r k r2 k2 : Nat} {x1 x2 : Int32} (hw : pm_W P r k r2 k2) (he : e < 100000) (h : f179 r x1 x2 I J = some (.inr 1, I1, J1)) : pm_Fn X (d + 3) 335 0 [.ref 0, .int x1, .int x2, .ref 157] (I, J, P, pm_T0, e) (.inl (some (.int 1))) (I1, J1, P, pm_T0, e + 1) := by
  refine fn_s ml335 rfl rfl rfl ?_
  refine al3 c335_0 ?_
  refine r_ic c335_1 kI0 ?_
  refine al0 c335_2 ?_
  refine il1 c335_3 ?_
  refine il2 c335_4 ?_
  refine fx_catch (as := [.ref 0, .int x1, .int x2]) (S' := [.int 0, .ref 157]) (t := 1) (h9 := 13) (i9 := 4) (μ1 := (I1, J1, P, pm_T0, e + 1)) q335_5 rfl rfl rfl (by decide) k335 (by decide +kernel) c335_13 rfl (Nat.le_of_ble_eq_true rfl) (d179 hw he h) ?_
  refine r_ic c335_15 kI1 ?_
  exact r_ri c335_16 rt335 rfl rfl
theorem d335b2 {X : (Nat → Int32) × Nat} {d : Nat} {I I1 : Nat → Nat → Int32} {J J1 : Nat → Nat → Int64} {P : Nat → Nat → Value} {e r k r2 k2 : Nat} {x1 x2 : Int32} (hw : pm_W P r k r2 k2) (he : e < 100000) (h : f179 r x1 x2 I J = some (.inr 2, I1, J1)) : pm_Fn X (d + 3) 335 0 [.ref 0, .int x1, .int x2, .ref 157] (I, J, P, pm_T0, e) (.inl (some (.int 2))) (I1, J1, P, pm_T0, e + 1) := by
  refine fn_s ml335 rfl rfl rfl ?_
  refine al3 c335_0 ?_
  refine r_ic c335_1 kI0 ?_
  refine al0 c335_2 ?_
  refine il1 c335_3 ?_
  refine il2 c335_4 ?_
  refine fx_catch (as := [.ref 0, .int x1, .int x2]) (S' := [.int 0, .ref 157]) (t := 2) (h9 := 17) (i9 := 4) (μ1 := (I1, J1, P, pm_T0, e + 1)) q335_5 rfl rfl rfl (by decide) k335 (by decide +kernel) c335_17 rfl (Nat.le_of_ble_eq_true rfl) (d179 hw he h) ?_
  refine r_ic c335_19 kI2 ?_
  exact r_ri c335_20 rt335 rfl rfl
theorem d336a {X : (Nat → Int32) × Nat} {d : Nat} {I I1 : Nat → Nat → Int32} {J J1 : Nat → Nat → Int64} {P : Nat → Nat → Value} {e r k r2 k2 : Nat} {x1 x2 : Int32} {v : Int32} (hw : pm_W P r k r2 k2) (he : e < 100000) (h : f181 r x1 x2 I J = some (.inl v, I1, J1)) : pm_Fn X (d + 5) 336 0 [.ref 0, .int x1, .int x2, .ref 157] (I, J, P, pm_T0, e) (.inl (some (.int 0))) (I1, pm_wl J1 157 0 v.toInt64, P, pm_T0, e) := by
  refine fn_s ml336 rfl rfl rfl ?_
  refine al3 c336_0 ?_
  refine r_ic c336_1 kI0 ?_
  refine al0 c336_2 ?_
  refine il1 c336_3 ?_
  refine il2 c336_4 ?_
  refine cv3 q336_5 (v := .int v) (μ1 := (I1, J1, P, pm_T0, e)) (d181 hw he h) rfl ?_
  refine r_i2l c336_8 ?_
  refine w_lst c336_9 rfl (by decide) ?_
  refine r_go (t := 21) c336_10 rfl ?_
  refine r_ic c336_21 kI0 ?_
  exact r_ri c336_22 rt336 rfl rfl
theorem d336b1 {X : (Nat → Int32) × Nat} {d : Nat} {I I1 : Nat → Nat → Int32} {J J1 : Nat → Nat → Int64} {P : Nat → Nat → Value} {e r k r2 k2 : Nat} {x1 x2 : Int32} (hw : pm_W P r k r2 k2) (he : e < 100000) (h : f181 r x1 x2 I J = some (.inr 1, I1, J1)) : pm_Fn X (d + 5) 336 0 [.ref 0, .int x1, .int x2, .ref 157] (I, J, P, pm_T0, e) (.inl (some (.int 1))) (I1, J1, P, pm_T0, e + 1) := by
  refine fn_s ml336 rfl rfl rfl ?_
  refine al3 c336_0 ?_
  refine r_ic c336_1 kI0 ?_
  refine al0 c336_2 ?_
  refine il1 c336_3 ?_
  refine il2 c336_4 ?_
  refine fx_catch (as := [.ref 0, .int x1, .int x2]) (S' := [.int 0, .ref 157]) (t := 1) (h9 := 13) (i9 := 4) (μ1 := (I1, J1, P, pm_T0, e + 1)) q336_5 rfl rfl rfl (by decide) k336 (by decide +kernel) c336_13 rfl (Nat.le_of_ble_eq_true rfl) (d181 hw he h) ?_
  refine r_ic c336_15 kI1 ?_
  exact r_ri c336_16 rt336 rfl rfl
theorem d336b2 {X : (Nat → Int32) × Nat} {d : Nat} {I I1 : Nat → Nat → Int32} {J J1 : Nat → Nat → Int64} {P : Nat → Nat → Value} {e r k r2 k2 : Nat} {x1 x2 : Int32} (hw : pm_W P r k r2 k2) (he : e < 100000) (h : f181 r x1 x2 I J = some (.inr 2, I1, J1)) : pm_Fn X (d + 5) 336 0 [.ref 0, .int x1, .int x2, .ref 157] (I, J, P, pm_T0, e) (.inl (some (.int 2))) (I1, J1, P, pm_T0, e + 1) := by
  refine fn_s ml336 rfl rfl rfl ?_
  refine al3 c336_0 ?_
  refine r_ic c336_1 kI0 ?_
  refine al0 c336_2 ?_
  refine il1 c336_3 ?_
  refine il2 c336_4 ?_
  refine fx_catch (as := [.ref 0, .int x1, .int x2]) (S' := [.int 0, .ref 157]) (t := 2) (h9 := 17) (i9 := 4) (μ1 := (I1, J1, P, pm_T0, e + 1)) q336_5 rfl rfl rfl (by decide) k336 (by decide +kernel) c336_17 rfl (Nat.le_of_ble_eq_true rfl) (d181 hw he h) ?_
  refine r_ic c336_19 kI2 ?_
  exact r_ri c336_20 rt336 rfl rfl
theorem d337a {X : (Nat → Int32) × Nat} {d : Nat} {I I1 : Nat → Nat → Int32} {J J1 : Nat → Nat → Int64} {P : Nat → Nat → Value} {e r k r2 k2 : Nat} {x1 x2 : Int32} {v : Int32} (hw : pm_W P r k r2 k2) (he : e < 100000) (h : f183 r x1 x2 I J = some (.inl v, I1, J1)) : pm_Fn X (d + 5) 337 0 [.ref 0, .int x1, .int x2, .ref 157] (I, J, P, pm_T0, e) (.inl (some (.int 0))) (I1, pm_wl J1 157 0 v.toInt64, P, pm_T0, e) := by
  refine fn_s ml337 rfl rfl rfl ?_
  refine al3 c337_0 ?_
  refine r_ic c337_1 kI0 ?_
  refine al0 c337_2 ?_
  refine il1 c337_3 ?_
  refine il2 c337_4 ?_
  refine cv3 q337_5 (v := .int v) (μ1 := (I1, J1, P, pm_T0, e)) (d183 hw he h) rfl ?_
  refine r_i2l c337_8 ?_
  refine w_lst c337_9 rfl (by decide) ?_
  refine r_go (t := 21) c337_10 rfl ?_
  refine r_ic c337_21 kI0 ?_
  exact r_ri c337_22 rt337 rfl rfl
theorem d337b1 {X : (Nat → Int32) × Nat} {d : Nat} {I I1 : Nat → Nat → Int32} {J J1 : Nat → Nat → Int64} {P : Nat → Nat → Value} {e r k r2 k2 : Nat} {x1 x2 : Int32} (hw : pm_W P r k r2 k2) (he : e < 100000) (h : f183 r x1 x2 I J = some (.inr 1, I1, J1)) : pm_Fn X (d + 5) 337 0 [.ref 0, .int x1, .int x2, .ref 157] (I, J, P, pm_T0, e) (.inl (some (.int 1))) (I1, J1, P, pm_T0, e + 1) := by
  refine fn_s ml337 rfl rfl rfl ?_
  refine al3 c337_0 ?_
  refine r_ic c337_1 kI0 ?_
  refine al0 c337_2 ?_
  refine il1 c337_3 ?_
  refine il2 c337_4 ?_
  refine fx_catch (as := [.ref 0, .int x1, .int x2]) (S' := [.int 0, .ref 157]) (t := 1) (h9 := 13) (i9 := 4) (μ1 := (I1, J1, P, pm_T0, e + 1)) q337_5 rfl rfl rfl (by decide) k337 (by decide +kernel) c337_13 rfl (Nat.le_of_ble_eq_true rfl) (d183 hw he h) ?_
  refine r_ic c337_15 kI1 ?_
  exact r_ri c337_16 rt337 rfl rfl
theorem d337b2 {X : (Nat → Int32) × Nat} {d : Nat} {I I1 : Nat → Nat → Int32} {J J1 : Nat → Nat → Int64} {P : Nat → Nat → Value} {e r k r2 k2 : Nat} {x1 x2 : Int32} (hw : pm_W P r k r2 k2) (he : e < 100000) (h : f183 r x1 x2 I J = some (.inr 2, I1, J1)) : pm_Fn X (d + 5) 337 0 [.ref 0, .int x1, .int x2, .ref 157] (I, J, P, pm_T0, e) (.inl (some (.int 2))) (I1, J1, P, pm_T0, e + 1) := by
  refine fn_s ml337 rfl rfl rfl ?_
  refine al3 c337_0 ?_
  refine r_ic c337_1 kI0 ?_
  refine al0 c337_2 ?_
  refine il1 c337_3 ?_
  refine il2 c337_4 ?_
  refine fx_catch (as := [.ref 0, .int x1, .int x2]) (S' := [.int 0, .ref 157]) (t := 2) (h9 := 17) (i9 := 4) (μ1 := (I1, J1, P, pm_T0, e + 1)) q337_5 rfl rfl rfl (by decide) k337 (by decide +kernel) c337_17 rfl (Nat.le_of_ble_eq_true rfl) (d183 hw he h) ?_
  refine r_ic c337_19 kI2 ?_
  exact r_ri c337_20 rt337 rfl rfl
theorem d338a {X : (Nat → Int32) × Nat} {d : Nat} {I I1 : Nat → Nat → Int32} {J J1 : Nat → Nat → Int64} {P : Nat → Nat → Value} {e r k r2 k2 : Nat} {x1 : Int32} {v : Int32} (hw : pm_W P r k r2 k2) (he : e < 100000) (h : f184 r x1 I J = some (.inl v, I1, J1)) : pm_Fn X (d + 5) 338 0 [.ref 0, .int x1, .ref 157] (I, J, P, pm_T0, e) (.inl (some (.int 0))) (I1, pm_wl J1 157 0 v.toInt64, P, pm_T0, e) := by
  refine fn_s ml338 rfl rfl rfl ?_
  refine al2 c338_0 ?_
  refine r_ic c338_1 kI0 ?_
  refine al0 c338_2 ?_
  refine il1 c338_3 ?_
  refine cv2 q338_4 (v := .int v) (μ1 := (I1, J1, P, pm_T0, e)) (d184 hw he h) rfl ?_
  refine r_i2l c338_7 ?_
  refine w_lst c338_8 rfl (by decide) ?_
  refine r_go (t := 15) c338_9 rfl ?_
  refine r_ic c338_15 kI0 ?_
  exact r_ri c338_16 rt338 rfl rfl
theorem d338b1 {X : (Nat → Int32) × Nat} {d : Nat} {I I1 : Nat → Nat → Int32} {J J1 : Nat → Nat → Int64} {P : Nat → Nat → Value} {e r k r2 k2 : Nat} {x1 : Int32} (hw : pm_W P r k r2 k2) (he : e < 100000) (h : f184 r x1 I J = some (.inr 1, I1, J1)) : pm_Fn X (d + 5) 338 0 [.ref 0, .int x1, .ref 157] (I, J, P, pm_T0, e) (.inl (some (.int 1))) (I1, J1, P, pm_T0, e + 1) := by
  refine fn_s ml338 rfl rfl rfl ?_
  refine al2 c338_0 ?_
  refine r_ic c338_1 kI0 ?_
  refine al0 c338_2 ?_
  refine il1 c338_3 ?_
  refine fx_catch (as := [.ref 0, .int x1]) (S' := [.int 0, .ref 157]) (t := 1) (h9 := 12) (i9 := 3) (μ1 := (I1, J1, P, pm_T0, e + 1)) q338_4 rfl rfl rfl (by decide) k338 (by decide +kernel) c338_12 rfl (Nat.le_of_ble_eq_true rfl) (d184 hw he h) ?_
  refine r_ic c338_13 kI1 ?_
  exact r_ri c338_14 rt338 rfl rfl
theorem d339a {X : (Nat → Int32) × Nat} {d : Nat} {I I1 : Nat → Nat → Int32} {J J1 : Nat → Nat → Int64} {P : Nat → Nat → Value} {e r k r2 k2 : Nat} {x1 x2 x3 x4 x5 x6 : Int32} {v : Int32} (hw : pm_W P r k r2 k2) (he : e < 100000) (h : f185 x1 x2 x3 x4 x5 x6 I J = some (.inl v, I1, J1)) : pm_Fn X (d + 5) 339 0 [.ref 0, .int x1, .int x2, .int x3, .int x4, .int x5, .int x6, .ref 157] (I, J, P, pm_T0, e) (.inl (some (.int 0))) (I1, pm_wl J1 157 0 v.toInt64, P, pm_T0, e) := by
  refine fn_s ml339 rfl rfl rfl ?_
  refine al7 c339_0 ?_
  refine r_ic c339_2 kI0 ?_
  refine al0 c339_3 ?_
  refine il1 c339_4 ?_
  refine il2 c339_5 ?_
  refine il3 c339_6 ?_
  refine il4 c339_7 ?_
  refine il5 c339_9 ?_
  refine il6 c339_11 ?_
  refine cv7 q339_13 (v := .int v) (μ1 := (I1, J1, P, pm_T0, e)) (d185 hw he h) rfl ?_
  refine r_i2l c339_16 ?_
  refine w_lst c339_17 rfl (by decide) ?_
  refine r_go (t := 25) c339_18 rfl ?_
  refine r_ic c339_25 kI0 ?_
  exact r_ri c339_26 rt339 rfl rfl
theorem d339b2 {X : (Nat → Int32) × Nat} {d : Nat} {I I1 : Nat → Nat → Int32} {J J1 : Nat → Nat → Int64} {P : Nat → Nat → Value} {e r k r2 k2 : Nat} {x1 x2 x3 x4 x5 x6 : Int32} (hw : pm_W P r k r2 k2) (he : e < 100000) (h : f185 x1 x2 x3 x4 x5 x6 I J = some (.inr 2, I1, J1)) : pm_Fn X (d + 5) 339 0 [.ref 0, .int x1, .int x2, .int x3, .int x4, .int x5, .int x6, .ref 157] (I, J, P, pm_T0, e) (.inl (some (.int 1))) (I1, J1, P, pm_T0, e + 1) := by
  refine fn_s ml339 rfl rfl rfl ?_
  refine al7 c339_0 ?_
  refine r_ic c339_2 kI0 ?_
  refine al0 c339_3 ?_
  refine il1 c339_4 ?_
  refine il2 c339_5 ?_
  refine il3 c339_6 ?_
  refine il4 c339_7 ?_
  refine il5 c339_9 ?_
  refine il6 c339_11 ?_
  refine fx_catch (as := [.ref 0, .int x1, .int x2, .int x3, .int x4, .int x5, .int x6]) (S' := [.int 0, .ref 157]) (t := 2) (h9 := 21) (i9 := 8) (μ1 := (I1, J1, P, pm_T0, e + 1)) q339_13 rfl rfl rfl (by decide) k339 (by decide +kernel) c339_21 rfl (Nat.le_of_ble_eq_true rfl) (d185 hw he h) ?_
  refine r_ic c339_23 kI1 ?_
  exact r_ri c339_24 rt339 rfl rfl
theorem d340a {X : (Nat → Int32) × Nat} {d : Nat} {I I1 : Nat → Nat → Int32} {J J1 : Nat → Nat → Int64} {P : Nat → Nat → Value} {e r k r2 k2 : Nat} {x1 : Int32} {v : Int32} (hw : pm_W P r k r2 k2) (he : e < 100000) (h : f186 r x1 I J = some (.inl v, I1, J1)) : pm_Fn X (d + 5) 340 0 [.ref 0, .int x1, .ref 157] (I, J, P, pm_T0, e) (.inl (some (.int 0))) (I1, pm_wl J1 157 0 v.toInt64, P, pm_T0, e) := by
  refine fn_s ml340 rfl rfl rfl ?_
  refine al2 c340_0 ?_
  refine r_ic c340_1 kI0 ?_
  refine al0 c340_2 ?_
  refine il1 c340_3 ?_
  refine cv2 q340_4 (v := .int v) (μ1 := (I1, J1, P, pm_T0, e)) (d186 hw he h) rfl ?_
  refine r_i2l c340_7 ?_
  refine w_lst c340_8 rfl (by decide) ?_
  refine r_go (t := 15) c340_9 rfl ?_
  refine r_ic c340_15 kI0 ?_
  exact r_ri c340_16 rt340 rfl rfl
theorem d340b1 {X : (Nat → Int32) × Nat} {d : Nat} {I I1 : Nat → Nat → Int32} {J J1 : Nat → Nat → Int64} {P : Nat → Nat → Value} {e r k r2 k2 : Nat} {x1 : Int32} (hw : pm_W P r k r2 k2) (he : e < 100000) (h : f186 r x1 I J = some (.inr 1, I1, J1)) : pm_Fn X (d + 5) 340 0 [.ref 0, .int x1, .ref 157] (I, J, P, pm_T0, e) (.inl (some (.int 1))) (I1, J1, P, pm_T0, e + 1) := by
  refine fn_s ml340 rfl rfl rfl ?_
  refine al2 c340_0 ?_
  refine r_ic c340_1 kI0 ?_
  refine al0 c340_2 ?_
  refine il1 c340_3 ?_
  refine fx_catch (as := [.ref 0, .int x1]) (S' := [.int 0, .ref 157]) (t := 1) (h9 := 12) (i9 := 3) (μ1 := (I1, J1, P, pm_T0, e + 1)) q340_4 rfl rfl rfl (by decide) k340 (by decide +kernel) c340_12 rfl (Nat.le_of_ble_eq_true rfl) (d186 hw he h) ?_
  refine r_ic c340_13 kI1 ?_
  exact r_ri c340_14 rt340 rfl rfl
theorem d341a {X : (Nat → Int32) × Nat} {d : Nat} {I I1 : Nat → Nat → Int32} {J J1 : Nat → Nat → Int64} {P : Nat → Nat → Value} {e r k r2 k2 : Nat} {x1 : Int32} {v : Int32} (hw : pm_W P r k r2 k2) (he : e < 100000) (h : f187 r x1 I J = some (.inl v, I1, J1)) : pm_Fn X (d + 5) 341 0 [.ref 0, .int x1, .ref 157] (I, J, P, pm_T0, e) (.inl (some (.int 0))) (I1, pm_wl J1 157 0 v.toInt64, P, pm_T0, e) := by
  refine fn_s ml341 rfl rfl rfl ?_
  refine al2 c341_0 ?_
  refine r_ic c341_1 kI0 ?_
  refine al0 c341_2 ?_
  refine il1 c341_3 ?_
  refine cv2 q341_4 (v := .int v) (μ1 := (I1, J1, P, pm_T0, e)) (d187 hw he h) rfl ?_
  refine r_i2l c341_7 ?_
  refine w_lst c341_8 rfl (by decide) ?_
  refine r_go (t := 15) c341_9 rfl ?_
  refine r_ic c341_15 kI0 ?_
  exact r_ri c341_16 rt341 rfl rfl
theorem d341b1 {X : (Nat → Int32) × Nat} {d : Nat} {I I1 : Nat → Nat → Int32} {J J1 : Nat → Nat → Int64} {P : Nat → Nat → Value} {e r k r2 k2 : Nat} {x1 : Int32} (hw : pm_W P r k r2 k2) (he : e < 100000) (h : f187 r x1 I J = some (.inr 1, I1, J1)) : pm_Fn X (d + 5) 341 0 [.ref 0, .int x1, .ref 157] (I, J, P, pm_T0, e) (.inl (some (.int 1))) (I1, J1, P, pm_T0, e + 1) := by
  refine fn_s ml341 rfl rfl rfl ?_
  refine al2 c341_0 ?_
  refine r_ic c341_1 kI0 ?_
  refine al0 c341_2 ?_
  refine il1 c341_3 ?_
  refine fx_catch (as := [.ref 0, .int x1]) (S' := [.int 0, .ref 157]) (t := 1) (h9 := 12) (i9 := 3) (μ1 := (I1, J1, P, pm_T0, e + 1)) q341_4 rfl rfl rfl (by decide) k341 (by decide +kernel) c341_12 rfl (Nat.le_of_ble_eq_true rfl) (d187 hw he h) ?_
  refine r_ic c341_13 kI1 ?_
  exact r_ri c341_14 rt341 rfl rfl
theorem d342a {X : (Nat → Int32) × Nat} {d : Nat} {I I1 : Nat → Nat → Int32} {J J1 : Nat → Nat → Int64} {P : Nat → Nat → Value} {e r k r2 k2 : Nat} {x1 x2 : Int32} {v : Int32} (hw : pm_W P r k r2 k2) (he : e < 100000) (h : f188 r x1 x2 I J = some (.inl v, I1, J1)) : pm_Fn X (d + 6) 342 0 [.ref 0, .int x1, .int x2, .ref 157] (I, J, P, pm_T0, e) (.inl (some (.int 0))) (I1, pm_wl J1 157 0 v.toInt64, P, pm_T0, e) := by
  refine fn_s ml342 rfl rfl rfl ?_
  refine al3 c342_0 ?_
  refine r_ic c342_1 kI0 ?_
  refine al0 c342_2 ?_
  refine il1 c342_3 ?_
  refine il2 c342_4 ?_
  refine cv3 q342_5 (v := .int v) (μ1 := (I1, J1, P, pm_T0, e)) (d188 hw he h) rfl ?_
  refine r_i2l c342_8 ?_
  refine w_lst c342_9 rfl (by decide) ?_
  refine r_go (t := 17) c342_10 rfl ?_
  refine r_ic c342_17 kI0 ?_
  exact r_ri c342_18 rt342 rfl rfl
theorem d342b2 {X : (Nat → Int32) × Nat} {d : Nat} {I I1 : Nat → Nat → Int32} {J J1 : Nat → Nat → Int64} {P : Nat → Nat → Value} {e r k r2 k2 : Nat} {x1 x2 : Int32} (hw : pm_W P r k r2 k2) (he : e < 100000) (h : f188 r x1 x2 I J = some (.inr 2, I1, J1)) : pm_Fn X (d + 6) 342 0 [.ref 0, .int x1, .int x2, .ref 157] (I, J, P, pm_T0, e) (.inl (some (.int 1))) (I1, J1, P, pm_T0, e + 1) := by
  refine fn_s ml342 rfl rfl rfl ?_
  refine al3 c342_0 ?_
  refine r_ic c342_1 kI0 ?_
  refine al0 c342_2 ?_
  refine il1 c342_3 ?_
  refine il2 c342_4 ?_
  refine fx_catch (as := [.ref 0, .int x1, .int x2]) (S' := [.int 0, .ref 157]) (t := 2) (h9 := 13) (i9 := 4) (μ1 := (I1, J1, P, pm_T0, e + 1)) q342_5 rfl rfl rfl (by decide) k342 (by decide +kernel) c342_13 rfl (Nat.le_of_ble_eq_true rfl) (d188 hw he h) ?_
  refine r_ic c342_15 kI1 ?_
  exact r_ri c342_16 rt342 rfl rfl
theorem d343a {X : (Nat → Int32) × Nat} {d : Nat} {I I1 : Nat → Nat → Int32} {J J1 : Nat → Nat → Int64} {P : Nat → Nat → Value} {e r k r2 k2 : Nat} {x1 x2 : Int32} {v : Int32} (hw : pm_W P r k r2 k2) (he : e < 100000) (h : f189 r x1 x2 I J = some (.inl v, I1, J1)) : pm_Fn X (d + 5) 343 0 [.ref 0, .int x1, .int x2, .ref 157] (I, J, P, pm_T0, e) (.inl (some (.int 0))) (I1, pm_wl J1 157 0 v.toInt64, P, pm_T0, e) := by
  refine fn_s ml343 rfl rfl rfl ?_
  refine al3 c343_0 ?_
  refine r_ic c343_1 kI0 ?_
  refine al0 c343_2 ?_
  refine il1 c343_3 ?_
  refine il2 c343_4 ?_
  refine cv3 q343_5 (v := .int v) (μ1 := (I1, J1, P, pm_T0, e)) (d189 hw he h) rfl ?_
  refine r_i2l c343_8 ?_
  refine w_lst c343_9 rfl (by decide) ?_
  refine r_go (t := 17) c343_10 rfl ?_
  refine r_ic c343_17 kI0 ?_
  exact r_ri c343_18 rt343 rfl rfl
theorem d343b1 {X : (Nat → Int32) × Nat} {d : Nat} {I I1 : Nat → Nat → Int32} {J J1 : Nat → Nat → Int64} {P : Nat → Nat → Value} {e r k r2 k2 : Nat} {x1 x2 : Int32} (hw : pm_W P r k r2 k2) (he : e < 100000) (h : f189 r x1 x2 I J = some (.inr 1, I1, J1)) : pm_Fn X (d + 5) 343 0 [.ref 0, .int x1, .int x2, .ref 157] (I, J, P, pm_T0, e) (.inl (some (.int 1))) (I1, J1, P, pm_T0, e + 1) := by
  refine fn_s ml343 rfl rfl rfl ?_
  refine al3 c343_0 ?_
  refine r_ic c343_1 kI0 ?_
  refine al0 c343_2 ?_
  refine il1 c343_3 ?_
  refine il2 c343_4 ?_
  refine fx_catch (as := [.ref 0, .int x1, .int x2]) (S' := [.int 0, .ref 157]) (t := 1) (h9 := 13) (i9 := 4) (μ1 := (I1, J1, P, pm_T0, e + 1)) q343_5 rfl rfl rfl (by decide) k343 (by decide +kernel) c343_13 rfl (Nat.le_of_ble_eq_true rfl) (d189 hw he h) ?_
  refine r_ic c343_15 kI1 ?_
  exact r_ri c343_16 rt343 rfl rfl
theorem d344a {X : (Nat → Int32) × Nat} {d : Nat} {I I1 : Nat → Nat → Int32} {J J1 : Nat → Nat → Int64} {P : Nat → Nat → Value} {e r k r2 k2 : Nat} {x1 : Int32} {v : Int32} (hw : pm_W P r k r2 k2) (he : e < 100000) (h : f190 r x1 I J = some (.inl v, I1, J1)) : pm_Fn X (d + 8) 344 0 [.ref 0, .int x1, .ref 157] (I, J, P, pm_T0, e) (.inl (some (.int 0))) (I1, pm_wl J1 157 0 v.toInt64, P, pm_T0, e) := by
  refine fn_s ml344 rfl rfl rfl ?_
  refine al2 c344_0 ?_
  refine r_ic c344_1 kI0 ?_
  refine al0 c344_2 ?_
  refine il1 c344_3 ?_
  refine cv2 q344_4 (v := .int v) (μ1 := (I1, J1, P, pm_T0, e)) (d190 hw he h) rfl ?_
  refine r_i2l c344_7 ?_
  refine w_lst c344_8 rfl (by decide) ?_
  refine r_go (t := 15) c344_9 rfl ?_
  refine r_ic c344_15 kI0 ?_
  exact r_ri c344_16 rt344 rfl rfl
theorem d344b2 {X : (Nat → Int32) × Nat} {d : Nat} {I I1 : Nat → Nat → Int32} {J J1 : Nat → Nat → Int64} {P : Nat → Nat → Value} {e r k r2 k2 : Nat} {x1 : Int32} (hw : pm_W P r k r2 k2) (he : e < 100000) (h : f190 r x1 I J = some (.inr 2, I1, J1)) : pm_Fn X (d + 8) 344 0 [.ref 0, .int x1, .ref 157] (I, J, P, pm_T0, e) (.inl (some (.int 1))) (I1, J1, P, pm_T0, e + 1) := by
  refine fn_s ml344 rfl rfl rfl ?_
  refine al2 c344_0 ?_
  refine r_ic c344_1 kI0 ?_
  refine al0 c344_2 ?_
  refine il1 c344_3 ?_
  refine fx_catch (as := [.ref 0, .int x1]) (S' := [.int 0, .ref 157]) (t := 2) (h9 := 12) (i9 := 3) (μ1 := (I1, J1, P, pm_T0, e + 1)) q344_4 rfl rfl rfl (by decide) k344 (by decide +kernel) c344_12 rfl (Nat.le_of_ble_eq_true rfl) (d190 hw he h) ?_
  refine r_ic c344_13 kI1 ?_
  exact r_ri c344_14 rt344 rfl rfl
theorem d345a {X : (Nat → Int32) × Nat} {d : Nat} {I I1 : Nat → Nat → Int32} {J J1 : Nat → Nat → Int64} {P : Nat → Nat → Value} {e r k r2 k2 : Nat} {x1 : Int32} {v : Int32} (hw : pm_W P r k r2 k2) (he : e < 100000) (h : f191 r x1 I J = some (.inl v, I1, J1)) : pm_Fn X (d + 8) 345 0 [.ref 0, .int x1, .ref 157] (I, J, P, pm_T0, e) (.inl (some (.int 0))) (I1, pm_wl J1 157 0 v.toInt64, P, pm_T0, e) := by
  refine fn_s ml345 rfl rfl rfl ?_
  refine al2 c345_0 ?_
  refine r_ic c345_1 kI0 ?_
  refine al0 c345_2 ?_
  refine il1 c345_3 ?_
  refine cv2 q345_4 (v := .int v) (μ1 := (I1, J1, P, pm_T0, e)) (d191 hw he h) rfl ?_
  refine r_i2l c345_7 ?_
  refine w_lst c345_8 rfl (by decide) ?_
  refine r_go (t := 15) c345_9 rfl ?_
  refine r_ic c345_15 kI0 ?_
  exact r_ri c345_16 rt345 rfl rfl
theorem d345b1 {X : (Nat → Int32) × Nat} {d : Nat} {I I1 : Nat → Nat → Int32} {J J1 : Nat → Nat → Int64} {P : Nat → Nat → Value} {e r k r2 k2 : Nat} {x1 : Int32} (hw : pm_W P r k r2 k2) (he : e < 100000) (h : f191 r x1 I J = some (.inr 1, I1, J1)) : pm_Fn X (d + 8) 345 0 [.ref 0, .int x1, .ref 157] (I, J, P, pm_T0, e) (.inl (some (.int 1))) (I1, J1, P, pm_T0, e + 1) := by
  refine fn_s ml345 rfl rfl rfl ?_
  refine al2 c345_0 ?_
  refine r_ic c345_1 kI0 ?_
  refine al0 c345_2 ?_
  refine il1 c345_3 ?_
  refine fx_catch (as := [.ref 0, .int x1]) (S' := [.int 0, .ref 157]) (t := 1) (h9 := 12) (i9 := 3) (μ1 := (I1, J1, P, pm_T0, e + 1)) q345_4 rfl rfl rfl (by decide) k345 (by decide +kernel) c345_12 rfl (Nat.le_of_ble_eq_true rfl) (d191 hw he h) ?_
  refine r_ic c345_13 kI1 ?_
  exact r_ri c345_14 rt345 rfl rfl
theorem d346a {X : (Nat → Int32) × Nat} {d : Nat} {I I1 : Nat → Nat → Int32} {J J1 : Nat → Nat → Int64} {P : Nat → Nat → Value} {e r k r2 k2 : Nat} {x1 : Int32} {v : Int32} (hw : pm_W P r k r2 k2) (he : e < 100000) (h : f192 r x1 I J = some (.inl v, I1, J1)) : pm_Fn X (d + 3) 346 0 [.ref 0, .int x1, .ref 157] (I, J, P, pm_T0, e) (.inl (some (.int 0))) (I1, pm_wl J1 157 0 v.toInt64, P, pm_T0, e) := by
  refine fn_s ml346 rfl rfl rfl ?_
  refine al2 c346_0 ?_
  refine r_ic c346_1 kI0 ?_
  refine al0 c346_2 ?_
  refine il1 c346_3 ?_
  refine cv2 q346_4 (v := .int v) (μ1 := (I1, J1, P, pm_T0, e)) (d192 hw he h) rfl ?_
  refine r_i2l c346_7 ?_
  refine w_lst c346_8 rfl (by decide) ?_
  refine r_go (t := 15) c346_9 rfl ?_
  refine r_ic c346_15 kI0 ?_
  exact r_ri c346_16 rt346 rfl rfl
theorem d346b1 {X : (Nat → Int32) × Nat} {d : Nat} {I I1 : Nat → Nat → Int32} {J J1 : Nat → Nat → Int64} {P : Nat → Nat → Value} {e r k r2 k2 : Nat} {x1 : Int32} (hw : pm_W P r k r2 k2) (he : e < 100000) (h : f192 r x1 I J = some (.inr 1, I1, J1)) : pm_Fn X (d + 3) 346 0 [.ref 0, .int x1, .ref 157] (I, J, P, pm_T0, e) (.inl (some (.int 1))) (I1, J1, P, pm_T0, e + 1) := by
  refine fn_s ml346 rfl rfl rfl ?_
  refine al2 c346_0 ?_
  refine r_ic c346_1 kI0 ?_
  refine al0 c346_2 ?_
  refine il1 c346_3 ?_
  refine fx_catch (as := [.ref 0, .int x1]) (S' := [.int 0, .ref 157]) (t := 1) (h9 := 12) (i9 := 3) (μ1 := (I1, J1, P, pm_T0, e + 1)) q346_4 rfl rfl rfl (by decide) k346 (by decide +kernel) c346_12 rfl (Nat.le_of_ble_eq_true rfl) (d192 hw he h) ?_
  refine r_ic c346_13 kI1 ?_
  exact r_ri c346_14 rt346 rfl rfl
theorem d347a {X : (Nat → Int32) × Nat} {d : Nat} {I I1 : Nat → Nat → Int32} {J J1 : Nat → Nat → Int64} {P : Nat → Nat → Value} {e r k r2 k2 : Nat} {x1 : Int32} {v : Int32} (hw : pm_W P r k r2 k2) (he : e < 100000) (h : f193 r x1 I J = some (.inl v, I1, J1)) : pm_Fn X (d + 6) 347 0 [.ref 0, .int x1, .ref 157] (I, J, P, pm_T0, e) (.inl (some (.int 0))) (I1, pm_wl J1 157 0 v.toInt64, P, pm_T0, e) := by
  refine fn_s ml347 rfl rfl rfl ?_
  refine al2 c347_0 ?_
  refine r_ic c347_1 kI0 ?_
  refine al0 c347_2 ?_
  refine il1 c347_3 ?_
  refine cv2 q347_4 (v := .int v) (μ1 := (I1, J1, P, pm_T0, e)) (d193 hw he h) rfl ?_
  refine r_i2l c347_7 ?_
  refine w_lst c347_8 rfl (by decide) ?_
  refine r_go (t := 15) c347_9 rfl ?_
  refine r_ic c347_15 kI0 ?_
  exact r_ri c347_16 rt347 rfl rfl
theorem d347b1 {X : (Nat → Int32) × Nat} {d : Nat} {I I1 : Nat → Nat → Int32} {J J1 : Nat → Nat → Int64} {P : Nat → Nat → Value} {e r k r2 k2 : Nat} {x1 : Int32} (hw : pm_W P r k r2 k2) (he : e < 100000) (h : f193 r x1 I J = some (.inr 1, I1, J1)) : pm_Fn X (d + 6) 347 0 [.ref 0, .int x1, .ref 157] (I, J, P, pm_T0, e) (.inl (some (.int 1))) (I1, J1, P, pm_T0, e + 1) := by
  refine fn_s ml347 rfl rfl rfl ?_
  refine al2 c347_0 ?_
  refine r_ic c347_1 kI0 ?_
  refine al0 c347_2 ?_
  refine il1 c347_3 ?_
  refine fx_catch (as := [.ref 0, .int x1]) (S' := [.int 0, .ref 157]) (t := 1) (h9 := 12) (i9 := 3) (μ1 := (I1, J1, P, pm_T0, e + 1)) q347_4 rfl rfl rfl (by decide) k347 (by decide +kernel) c347_12 rfl (Nat.le_of_ble_eq_true rfl) (d193 hw he h) ?_
  refine r_ic c347_13 kI1 ?_
  exact r_ri c347_14 rt347 rfl rfl
theorem d348a {X : (Nat → Int32) × Nat} {d : Nat} {I I1 : Nat → Nat → Int32} {J J1 : Nat → Nat → Int64} {P : Nat → Nat → Value} {e r k r2 k2 : Nat} {x1 : Int32} {v : Bool} (hw : pm_W P r k r2 k2) (he : e < 100000) (h : f194 r x1 I J = some (.inl v, I1, J1)) : pm_Fn X (d + 6) 348 0 [.ref 0, .int x1, .ref 157] (I, J, P, pm_T0, e) (.inl (some (.int 0))) (I1, pm_wl J1 157 0 (if v = true then 1 else 0), P, pm_T0, e) := by
  refine fn_s ml348 rfl rfl rfl ?_
  refine al2 c348_0 ?_
  refine r_ic c348_1 kI0 ?_
  refine al0 c348_2 ?_
  refine il1 c348_3 ?_
  refine cv2 q348_4 (v := .int (pm_bi v)) (μ1 := (I1, J1, P, pm_T0, e)) (d194 hw he h) rfl ?_
  refine r_ifeq (t := 14) c348_7 rfl (fun hb => ?_) (fun hb => ?_)
  · rw [if_neg (pm_bf hb)]
    refine r_lc c348_14 kL0 ?_
    refine w_lst c348_15 rfl (by decide) ?_
    refine r_go (t := 22) c348_16 rfl ?_
    refine r_ic c348_22 kI0 ?_
    exact r_ri c348_23 rt348 rfl rfl
  · rw [if_pos (pm_bt hb)]
    refine r_lc c348_10 kL1 ?_
    refine r_go (t := 15) c348_11 rfl ?_
    refine w_lst c348_15 rfl (by decide) ?_
    refine r_go (t := 22) c348_16 rfl ?_
    refine r_ic c348_22 kI0 ?_
    exact r_ri c348_23 rt348 rfl rfl
theorem d348b1 {X : (Nat → Int32) × Nat} {d : Nat} {I I1 : Nat → Nat → Int32} {J J1 : Nat → Nat → Int64} {P : Nat → Nat → Value} {e r k r2 k2 : Nat} {x1 : Int32} (hw : pm_W P r k r2 k2) (he : e < 100000) (h : f194 r x1 I J = some (.inr 1, I1, J1)) : pm_Fn X (d + 6) 348 0 [.ref 0, .int x1, .ref 157] (I, J, P, pm_T0, e) (.inl (some (.int 1))) (I1, J1, P, pm_T0, e + 1) := by
  refine fn_s ml348 rfl rfl rfl ?_
  refine al2 c348_0 ?_
  refine r_ic c348_1 kI0 ?_
  refine al0 c348_2 ?_
  refine il1 c348_3 ?_
  refine fx_catch (as := [.ref 0, .int x1]) (S' := [.int 0, .ref 157]) (t := 1) (h9 := 19) (i9 := 3) (μ1 := (I1, J1, P, pm_T0, e + 1)) q348_4 rfl rfl rfl (by decide) k348 (by decide +kernel) c348_19 rfl (Nat.le_of_ble_eq_true rfl) (d194 hw he h) ?_
  refine r_ic c348_20 kI1 ?_
  exact r_ri c348_21 rt348 rfl rfl
theorem d349a {X : (Nat → Int32) × Nat} {d : Nat} {I I1 : Nat → Nat → Int32} {J J1 : Nat → Nat → Int64} {P : Nat → Nat → Value} {e r k r2 k2 : Nat} {x1 : Int32} {v : Int32} (hw : pm_W P r k r2 k2) (he : e < 100000) (h : f195 r x1 I J = some (.inl v, I1, J1)) : pm_Fn X (d + 5) 349 0 [.ref 0, .int x1, .ref 157] (I, J, P, pm_T0, e) (.inl (some (.int 0))) (I1, pm_wl J1 157 0 v.toInt64, P, pm_T0, e) := by
  refine fn_s ml349 rfl rfl rfl ?_
  refine al2 c349_0 ?_
  refine r_ic c349_1 kI0 ?_
  refine al0 c349_2 ?_
  refine il1 c349_3 ?_
  refine cv2 q349_4 (v := .int v) (μ1 := (I1, J1, P, pm_T0, e)) (d195 hw he h) rfl ?_
  refine r_i2l c349_7 ?_
  refine w_lst c349_8 rfl (by decide) ?_
  refine r_go (t := 15) c349_9 rfl ?_
  refine r_ic c349_15 kI0 ?_
  exact r_ri c349_16 rt349 rfl rfl
theorem d349b2 {X : (Nat → Int32) × Nat} {d : Nat} {I I1 : Nat → Nat → Int32} {J J1 : Nat → Nat → Int64} {P : Nat → Nat → Value} {e r k r2 k2 : Nat} {x1 : Int32} (hw : pm_W P r k r2 k2) (he : e < 100000) (h : f195 r x1 I J = some (.inr 2, I1, J1)) : pm_Fn X (d + 5) 349 0 [.ref 0, .int x1, .ref 157] (I, J, P, pm_T0, e) (.inl (some (.int 1))) (I1, J1, P, pm_T0, e + 1) := by
  refine fn_s ml349 rfl rfl rfl ?_
  refine al2 c349_0 ?_
  refine r_ic c349_1 kI0 ?_
  refine al0 c349_2 ?_
  refine il1 c349_3 ?_
  refine fx_catch (as := [.ref 0, .int x1]) (S' := [.int 0, .ref 157]) (t := 2) (h9 := 12) (i9 := 3) (μ1 := (I1, J1, P, pm_T0, e + 1)) q349_4 rfl rfl rfl (by decide) k349 (by decide +kernel) c349_12 rfl (Nat.le_of_ble_eq_true rfl) (d195 hw he h) ?_
  refine r_ic c349_13 kI1 ?_
  exact r_ri c349_14 rt349 rfl rfl
theorem d350a {X : (Nat → Int32) × Nat} {d : Nat} {I I1 : Nat → Nat → Int32} {J J1 : Nat → Nat → Int64} {P : Nat → Nat → Value} {e r k r2 k2 : Nat} {x1 : Int32} {v : Int32} (hw : pm_W P r k r2 k2) (he : e < 100000) (h : f196 r x1 I J = some (.inl v, I1, J1)) : pm_Fn X (d + 5) 350 0 [.ref 0, .int x1, .ref 157] (I, J, P, pm_T0, e) (.inl (some (.int 0))) (I1, pm_wl J1 157 0 v.toInt64, P, pm_T0, e) := by
  refine fn_s ml350 rfl rfl rfl ?_
  refine al2 c350_0 ?_
  refine r_ic c350_1 kI0 ?_
  refine al0 c350_2 ?_
  refine il1 c350_3 ?_
  refine cv2 q350_4 (v := .int v) (μ1 := (I1, J1, P, pm_T0, e)) (d196 hw he h) rfl ?_
  refine r_i2l c350_7 ?_
  refine w_lst c350_8 rfl (by decide) ?_
  refine r_go (t := 15) c350_9 rfl ?_
  refine r_ic c350_15 kI0 ?_
  exact r_ri c350_16 rt350 rfl rfl
theorem d350b2 {X : (Nat → Int32) × Nat} {d : Nat} {I I1 : Nat → Nat → Int32} {J J1 : Nat → Nat → Int64} {P : Nat → Nat → Value} {e r k r2 k2 : Nat} {x1 : Int32} (hw : pm_W P r k r2 k2) (he : e < 100000) (h : f196 r x1 I J = some (.inr 2, I1, J1)) : pm_Fn X (d + 5) 350 0 [.ref 0, .int x1, .ref 157] (I, J, P, pm_T0, e) (.inl (some (.int 1))) (I1, J1, P, pm_T0, e + 1) := by
  refine fn_s ml350 rfl rfl rfl ?_
  refine al2 c350_0 ?_
  refine r_ic c350_1 kI0 ?_
  refine al0 c350_2 ?_
  refine il1 c350_3 ?_
  refine fx_catch (as := [.ref 0, .int x1]) (S' := [.int 0, .ref 157]) (t := 2) (h9 := 12) (i9 := 3) (μ1 := (I1, J1, P, pm_T0, e + 1)) q350_4 rfl rfl rfl (by decide) k350 (by decide +kernel) c350_12 rfl (Nat.le_of_ble_eq_true rfl) (d196 hw he h) ?_
  refine r_ic c350_13 kI1 ?_
  exact r_ri c350_14 rt350 rfl rfl
theorem d351a {X : (Nat → Int32) × Nat} {d : Nat} {I I1 : Nat → Nat → Int32} {J J1 : Nat → Nat → Int64} {P : Nat → Nat → Value} {e r k r2 k2 : Nat} {x1 x2 : Int32} {v : Int32} (hw : pm_W P r k r2 k2) (he : e < 100000) (h : f197 r k x1 x2 I J = some (.inl v, I1, J1)) : pm_Fn X (d + 6) 351 0 [.ref 0, .int x1, .int x2, .ref 157] (I, J, P, pm_T0, e) (.inl (some (.int 0))) (I1, pm_wl J1 157 0 v.toInt64, P, pm_T0, e) := by
  refine fn_s ml351 rfl rfl rfl ?_
  refine al3 c351_0 ?_
  refine r_ic c351_1 kI0 ?_
  refine al0 c351_2 ?_
  refine il1 c351_3 ?_
  refine il2 c351_4 ?_
  refine cv3 q351_5 (v := .int v) (μ1 := (I1, J1, P, pm_T0, e)) (d197 hw he h) rfl ?_
  refine r_i2l c351_8 ?_
  refine w_lst c351_9 rfl (by decide) ?_
  refine r_go (t := 21) c351_10 rfl ?_
  refine r_ic c351_21 kI0 ?_
  exact r_ri c351_22 rt351 rfl rfl
theorem d351b1 {X : (Nat → Int32) × Nat} {d : Nat} {I I1 : Nat → Nat → Int32} {J J1 : Nat → Nat → Int64} {P : Nat → Nat → Value} {e r k r2 k2 : Nat} {x1 x2 : Int32} (hw : pm_W P r k r2 k2) (he : e < 100000) (h : f197 r k x1 x2 I J = some (.inr 1, I1, J1)) : pm_Fn X (d + 6) 351 0 [.ref 0, .int x1, .int x2, .ref 157] (I, J, P, pm_T0, e) (.inl (some (.int 1))) (I1, J1, P, pm_T0, e + 1) := by
  refine fn_s ml351 rfl rfl rfl ?_
  refine al3 c351_0 ?_
  refine r_ic c351_1 kI0 ?_
  refine al0 c351_2 ?_
  refine il1 c351_3 ?_
  refine il2 c351_4 ?_
  refine fx_catch (as := [.ref 0, .int x1, .int x2]) (S' := [.int 0, .ref 157]) (t := 1) (h9 := 13) (i9 := 4) (μ1 := (I1, J1, P, pm_T0, e + 1)) q351_5 rfl rfl rfl (by decide) k351 (by decide +kernel) c351_13 rfl (Nat.le_of_ble_eq_true rfl) (d197 hw he h) ?_
  refine r_ic c351_15 kI1 ?_
  exact r_ri c351_16 rt351 rfl rfl
theorem d351b2 {X : (Nat → Int32) × Nat} {d : Nat} {I I1 : Nat → Nat → Int32} {J J1 : Nat → Nat → Int64} {P : Nat → Nat → Value} {e r k r2 k2 : Nat} {x1 x2 : Int32} (hw : pm_W P r k r2 k2) (he : e < 100000) (h : f197 r k x1 x2 I J = some (.inr 2, I1, J1)) : pm_Fn X (d + 6) 351 0 [.ref 0, .int x1, .int x2, .ref 157] (I, J, P, pm_T0, e) (.inl (some (.int 2))) (I1, J1, P, pm_T0, e + 1) := by
  refine fn_s ml351 rfl rfl rfl ?_
  refine al3 c351_0 ?_
  refine r_ic c351_1 kI0 ?_
  refine al0 c351_2 ?_
  refine il1 c351_3 ?_
  refine il2 c351_4 ?_
  refine fx_catch (as := [.ref 0, .int x1, .int x2]) (S' := [.int 0, .ref 157]) (t := 2) (h9 := 17) (i9 := 4) (μ1 := (I1, J1, P, pm_T0, e + 1)) q351_5 rfl rfl rfl (by decide) k351 (by decide +kernel) c351_17 rfl (Nat.le_of_ble_eq_true rfl) (d197 hw he h) ?_
  refine r_ic c351_19 kI2 ?_
  exact r_ri c351_20 rt351 rfl rfl
theorem d352a {X : (Nat → Int32) × Nat} {d : Nat} {I I1 : Nat → Nat → Int32} {J J1 : Nat → Nat → Int64} {P : Nat → Nat → Value} {e r k r2 k2 : Nat} {x1 x2 : Int32} {v : Int32} (hw : pm_W P r k r2 k2) (he : e < 100000) (h : f198 r k x1 x2 I J = some (.inl v, I1, J1)) : pm_Fn X (d + 6) 352 0 [.ref 0, .int x1, .int x2, .ref 157] (I, J, P, pm_T0, e) (.inl (some (.int 0))) (I1, pm_wl J1 157 0 v.toInt64, P, pm_T0, e) := by
  refine fn_s ml352 rfl rfl rfl ?_
  refine al3 c352_0 ?_
  refine r_ic c352_1 kI0 ?_
  refine al0 c352_2 ?_
  refine il1 c352_3 ?_
  refine il2 c352_4 ?_
  refine cv3 q352_5 (v := .int v) (μ1 := (I1, J1, P, pm_T0, e)) (d198 hw he h) rfl ?_
  refine r_i2l c352_8 ?_
  refine w_lst c352_9 rfl (by decide) ?_
  refine r_go (t := 21) c352_10 rfl ?_
  refine r_ic c352_21 kI0 ?_
  exact r_ri c352_22 rt352 rfl rfl
theorem d352b1 {X : (Nat → Int32) × Nat} {d : Nat} {I I1 : Nat → Nat → Int32} {J J1 : Nat → Nat → Int64} {P : Nat → Nat → Value} {e r k r2 k2 : Nat} {x1 x2 : Int32} (hw : pm_W P r k r2 k2) (he : e < 100000) (h : f198 r k x1 x2 I J = some (.inr 1, I1, J1)) : pm_Fn X (d + 6) 352 0 [.ref 0, .int x1, .int x2, .ref 157] (I, J, P, pm_T0, e) (.inl (some (.int 1))) (I1, J1, P, pm_T0, e + 1) := by
  refine fn_s ml352 rfl rfl rfl ?_
  refine al3 c352_0 ?_
  refine r_ic c352_1 kI0 ?_
  refine al0 c352_2 ?_
  refine il1 c352_3 ?_
  refine il2 c352_4 ?_
  refine fx_catch (as := [.ref 0, .int x1, .int x2]) (S' := [.int 0, .ref 157]) (t := 1) (h9 := 13) (i9 := 4) (μ1 := (I1, J1, P, pm_T0, e + 1)) q352_5 rfl rfl rfl (by decide) k352 (by decide +kernel) c352_13 rfl (Nat.le_of_ble_eq_true rfl) (d198 hw he h) ?_
  refine r_ic c352_15 kI1 ?_
  exact r_ri c352_16 rt352 rfl rfl
theorem d352b2 {X : (Nat → Int32) × Nat} {d : Nat} {I I1 : Nat → Nat → Int32} {J J1 : Nat → Nat → Int64} {P : Nat → Nat → Value} {e r k r2 k2 : Nat} {x1 x2 : Int32} (hw : pm_W P r k r2 k2) (he : e < 100000) (h : f198 r k x1 x2 I J = some (.inr 2, I1, J1)) : pm_Fn X (d + 6) 352 0 [.ref 0, .int x1, .int x2, .ref 157] (I, J, P, pm_T0, e) (.inl (some (.int 2))) (I1, J1, P, pm_T0, e + 1) := by
  refine fn_s ml352 rfl rfl rfl ?_
  refine al3 c352_0 ?_
  refine r_ic c352_1 kI0 ?_
  refine al0 c352_2 ?_
  refine il1 c352_3 ?_
  refine il2 c352_4 ?_
  refine fx_catch (as := [.ref 0, .int x1, .int x2]) (S' := [.int 0, .ref 157]) (t := 2) (h9 := 17) (i9 := 4) (μ1 := (I1, J1, P, pm_T0, e + 1)) q352_5 rfl rfl rfl (by decide) k352 (by decide +kernel) c352_17 rfl (Nat.le_of_ble_eq_true rfl) (d198 hw he h) ?_
  refine r_ic c352_19 kI2 ?_
  exact r_ri c352_20 rt352 rfl rfl
theorem d353a {X : (Nat → Int32) × Nat} {d : Nat} {I I1 : Nat → Nat → Int32} {J J1 : Nat → Nat → Int64} {P : Nat → Nat → Value} {e r k r2 k2 : Nat} {x1 x2 x3 : Int32} {v : Int64} (hw : pm_W P r k r2 k2) (he : e < 100000) (h : f199 x1 x2 x3 I J = some (.inl v, I1, J1)) : pm_Fn X (d + 3) 353 0 [.ref 0, .int x1, .int x2, .int x3, .ref 157] (I, J, P, pm_T0, e) (.inl (some (.int 0))) (I1, pm_wl J1 157 0 v, P, pm_T0, e) := by
  refine fn_s ml353 rfl rfl rfl ?_
  refine al4 c353_0 ?_
  refine r_ic c353_2 kI0 ?_
  refine al0 c353_3 ?_
  refine il1 c353_4 ?_
  refine il2 c353_5 ?_
  refine il3 c353_6 ?_
  refine cv4 q353_7 (v := .long v) (μ1 := (I1, J1, P, pm_T0, e)) (d199 hw he h) rfl ?_
  refine w_lst c353_10 rfl (by decide) ?_
  refine r_go (t := 18) c353_11 rfl ?_
  refine r_ic c353_18 kI0 ?_
  exact r_ri c353_19 rt353 rfl rfl
theorem d353b2 {X : (Nat → Int32) × Nat} {d : Nat} {I I1 : Nat → Nat → Int32} {J J1 : Nat → Nat → Int64} {P : Nat → Nat → Value} {e r k r2 k2 : Nat} {x1 x2 x3 : Int32} (hw : pm_W P r k r2 k2) (he : e < 100000) (h : f199 x1 x2 x3 I J = some (.inr 2, I1, J1)) : pm_Fn X (d + 3) 353 0 [.ref 0, .int x1, .int x2, .int x3, .ref 157] (I, J, P, pm_T0, e) (.inl (some (.int 1))) (I1, J1, P, pm_T0, e + 1) := by
  refine fn_s ml353 rfl rfl rfl ?_
  refine al4 c353_0 ?_
  refine r_ic c353_2 kI0 ?_
  refine al0 c353_3 ?_
  refine il1 c353_4 ?_
  refine il2 c353_5 ?_
  refine il3 c353_6 ?_
  refine fx_catch (as := [.ref 0, .int x1, .int x2, .int x3]) (S' := [.int 0, .ref 157]) (t := 2) (h9 := 14) (i9 := 5) (μ1 := (I1, J1, P, pm_T0, e + 1)) q353_7 rfl rfl rfl (by decide) k353 (by decide +kernel) c353_14 rfl (Nat.le_of_ble_eq_true rfl) (d199 hw he h) ?_
  refine r_ic c353_16 kI1 ?_
  exact r_ri c353_17 rt353 rfl rfl
theorem d354a {X : (Nat → Int32) × Nat} {d : Nat} {I I1 : Nat → Nat → Int32} {J J1 : Nat → Nat → Int64} {P : Nat → Nat → Value} {e r k r2 k2 : Nat} {x1 x2 : Int32} {v : Int32} (hw : pm_W P r k r2 k2) (he : e < 100000) (h : f204 x1 x2 I J = some (.inl v, I1, J1)) : pm_Fn X (d + 3) 354 0 [.ref 0, .int x1, .int x2, .ref 157] (I, J, P, pm_T0, e) (.inl (some (.int 0))) (I1, pm_wl J1 157 0 v.toInt64, P, pm_T0, e) := by
  refine fn_s ml354 rfl rfl rfl ?_
  refine al3 c354_0 ?_
  refine r_ic c354_1 kI0 ?_
  refine al0 c354_2 ?_
  refine il1 c354_3 ?_
  refine il2 c354_4 ?_
  refine cv3 q354_5 (v := .int v) (μ1 := (I1, J1, P, pm_T0, e)) (d204 hw he h) rfl ?_
  refine r_i2l c354_8 ?_
  refine w_lst c354_9 rfl (by decide) ?_
  refine r_go (t := 17) c354_10 rfl ?_
  refine r_ic c354_17 kI0 ?_
  exact r_ri c354_18 rt354 rfl rfl
theorem d354b2 {X : (Nat → Int32) × Nat} {d : Nat} {I I1 : Nat → Nat → Int32} {J J1 : Nat → Nat → Int64} {P : Nat → Nat → Value} {e r k r2 k2 : Nat} {x1 x2 : Int32} (hw : pm_W P r k r2 k2) (he : e < 100000) (h : f204 x1 x2 I J = some (.inr 2, I1, J1)) : pm_Fn X (d + 3) 354 0 [.ref 0, .int x1, .int x2, .ref 157] (I, J, P, pm_T0, e) (.inl (some (.int 1))) (I1, J1, P, pm_T0, e + 1) := by
  refine fn_s ml354 rfl rfl rfl ?_
  refine al3 c354_0 ?_
  refine r_ic c354_1 kI0 ?_
  refine al0 c354_2 ?_
  refine il1 c354_3 ?_
  refine il2 c354_4 ?_
  refine fx_catch (as := [.ref 0, .int x1, .int x2]) (S' := [.int 0, .ref 157]) (t := 2) (h9 := 13) (i9 := 4) (μ1 := (I1, J1, P, pm_T0, e + 1)) q354_5 rfl rfl rfl (by decide) k354 (by decide +kernel) c354_13 rfl (Nat.le_of_ble_eq_true rfl) (d204 hw he h) ?_
  refine r_ic c354_15 kI1 ?_
  exact r_ri c354_16 rt354 rfl rfl
theorem d355a {X : (Nat → Int32) × Nat} {d : Nat} {I I1 : Nat → Nat → Int32} {J J1 : Nat → Nat → Int64} {P : Nat → Nat → Value} {e r k r2 k2 : Nat} {x1 x2 x3 : Int32} {v : Int32} (hw : pm_W P r k r2 k2) (he : e < 100000) (h : f205 x1 x2 x3 I J = some (.inl v, I1, J1)) : pm_Fn X (d + 2) 355 0 [.ref 0, .int x1, .int x2, .int x3, .ref 157] (I, J, P, pm_T0, e) (.inl (some (.int 0))) (I1, pm_wl J1 157 0 v.toInt64, P, pm_T0, e) := by
  refine fn_s ml355 rfl rfl rfl ?_
  refine al4 c355_0 ?_
  refine r_ic c355_2 kI0 ?_
  refine al0 c355_3 ?_
  refine il1 c355_4 ?_
  refine il2 c355_5 ?_
  refine il3 c355_6 ?_
  refine cv4 q355_7 (v := .int v) (μ1 := (I1, J1, P, pm_T0, e)) (d205 hw he h) rfl ?_
  refine r_i2l c355_10 ?_
  refine w_lst c355_11 rfl (by decide) ?_
  refine r_go (t := 19) c355_12 rfl ?_
  refine r_ic c355_19 kI0 ?_
  exact r_ri c355_20 rt355 rfl rfl
theorem d355b2 {X : (Nat → Int32) × Nat} {d : Nat} {I I1 : Nat → Nat → Int32} {J J1 : Nat → Nat → Int64} {P : Nat → Nat → Value} {e r k r2 k2 : Nat} {x1 x2 x3 : Int32} (hw : pm_W P r k r2 k2) (he : e < 100000) (h : f205 x1 x2 x3 I J = some (.inr 2, I1, J1)) : pm_Fn X (d + 2) 355 0 [.ref 0, .int x1, .int x2, .int x3, .ref 157] (I, J, P, pm_T0, e) (.inl (some (.int 1))) (I1, J1, P, pm_T0, e + 1) := by
  refine fn_s ml355 rfl rfl rfl ?_
  refine al4 c355_0 ?_
  refine r_ic c355_2 kI0 ?_
  refine al0 c355_3 ?_
  refine il1 c355_4 ?_
  refine il2 c355_5 ?_
  refine il3 c355_6 ?_
  refine fx_catch (as := [.ref 0, .int x1, .int x2, .int x3]) (S' := [.int 0, .ref 157]) (t := 2) (h9 := 15) (i9 := 5) (μ1 := (I1, J1, P, pm_T0, e + 1)) q355_7 rfl rfl rfl (by decide) k355 (by decide +kernel) c355_15 rfl (Nat.le_of_ble_eq_true rfl) (d205 hw he h) ?_
  refine r_ic c355_17 kI1 ?_
  exact r_ri c355_18 rt355 rfl rfl
theorem d356a {X : (Nat → Int32) × Nat} {d : Nat} {I I1 : Nat → Nat → Int32} {J J1 : Nat → Nat → Int64} {P : Nat → Nat → Value} {e r k r2 k2 : Nat} {x1 x2 : Int32} {v : Int32} (hw : pm_W P r k r2 k2) (he : e < 100000) (h : f206 r x1 x2 I J = some (.inl v, I1, J1)) : pm_Fn X (d + 6) 356 0 [.ref 0, .int x1, .int x2, .ref 157] (I, J, P, pm_T0, e) (.inl (some (.int 0))) (I1, pm_wl J1 157 0 v.toInt64, P, pm_T0, e) := by
  refine fn_s ml356 rfl rfl rfl ?_
  refine al3 c356_0 ?_
  refine r_ic c356_1 kI0 ?_
  refine al0 c356_2 ?_
  refine il1 c356_3 ?_
  refine il2 c356_4 ?_
  refine cv3 q356_5 (v := .int v) (μ1 := (I1, J1, P, pm_T0, e)) (d206 hw he h) rfl ?_
  refine r_i2l c356_8 ?_
  refine w_lst c356_9 rfl (by decide) ?_
  refine r_go (t := 21) c356_10 rfl ?_
  refine r_ic c356_21 kI0 ?_
  exact r_ri c356_22 rt356 rfl rfl
theorem d356b1 {X : (Nat → Int32) × Nat} {d : Nat} {I I1 : Nat → Nat → Int32} {J J1 : Nat → Nat → Int64} {P : Nat → Nat → Value} {e r k r2 k2 : Nat} {x1 x2 : Int32} (hw : pm_W P r k r2 k2) (he : e < 100000) (h : f206 r x1 x2 I J = some (.inr 1, I1, J1)) : pm_Fn X (d + 6) 356 0 [.ref 0, .int x1, .int x2, .ref 157] (I, J, P, pm_T0, e) (.inl (some (.int 1))) (I1, J1, P, pm_T0, e + 1) := by
  refine fn_s ml356 rfl rfl rfl ?_
  refine al3 c356_0 ?_
  refine r_ic c356_1 kI0 ?_
  refine al0 c356_2 ?_
  refine il1 c356_3 ?_
  refine il2 c356_4 ?_
  refine fx_catch (as := [.ref 0, .int x1, .int x2]) (S' := [.int 0, .ref 157]) (t := 1) (h9 := 13) (i9 := 4) (μ1 := (I1, J1, P, pm_T0, e + 1)) q356_5 rfl rfl rfl (by decide) k356 (by decide +kernel) c356_13 rfl (Nat.le_of_ble_eq_true rfl) (d206 hw he h) ?_
  refine r_ic c356_15 kI1 ?_
  exact r_ri c356_16 rt356 rfl rfl
theorem d356b2 {X : (Nat → Int32) × Nat} {d : Nat} {I I1 : Nat → Nat → Int32} {J J1 : Nat → Nat → Int64} {P : Nat → Nat → Value} {e r k r2 k2 : Nat} {x1 x2 : Int32} (hw : pm_W P r k r2 k2) (he : e < 100000) (h : f206 r x1 x2 I J = some (.inr 2, I1, J1)) : pm_Fn X (d + 6) 356 0 [.ref 0, .int x1, .int x2, .ref 157] (I, J, P, pm_T0, e) (.inl (some (.int 2))) (I1, J1, P, pm_T0, e + 1) := by
  refine fn_s ml356 rfl rfl rfl ?_
  refine al3 c356_0 ?_
  refine r_ic c356_1 kI0 ?_
  refine al0 c356_2 ?_
  refine il1 c356_3 ?_
  refine il2 c356_4 ?_
  refine fx_catch (as := [.ref 0, .int x1, .int x2]) (S' := [.int 0, .ref 157]) (t := 2) (h9 := 17) (i9 := 4) (μ1 := (I1, J1, P, pm_T0, e + 1)) q356_5 rfl rfl rfl (by decide) k356 (by decide +kernel) c356_17 rfl (Nat.le_of_ble_eq_true rfl) (d206 hw he h) ?_
  refine r_ic c356_19 kI2 ?_
  exact r_ri c356_20 rt356 rfl rfl
theorem d357a {X : (Nat → Int32) × Nat} {d : Nat} {I I1 : Nat → Nat → Int32} {J J1 : Nat → Nat → Int64} {P : Nat → Nat → Value} {e r k r2 k2 : Nat} {x1 x2 x3 x4 : Int32} {v : Int32} (hw : pm_W P r k r2 k2) (he : e < 100000) (h : f207 x1 x2 x3 x4 I J = some (.inl v, I1, J1)) : pm_Fn X (d + 3) 357 0 [.ref 0, .int x1, .int x2, .int x3, .int x4, .ref 157] (I, J, P, pm_T0, e) (.inl (some (.int 0))) (I1, pm_wl J1 157 0 v.toInt64, P, pm_T0, e) := by
  refine fn_s ml357 rfl rfl rfl ?_
  refine al5 c357_0 ?_
  refine r_ic c357_2 kI0 ?_
  refine al0 c357_3 ?_
  refine il1 c357_4 ?_
  refine il2 c357_5 ?_
  refine il3 c357_6 ?_
  refine il4 c357_7 ?_
  refine cv5 q357_9 (v := .int v) (μ1 := (I1, J1, P, pm_T0, e)) (d207 hw he h) rfl ?_
  refine r_i2l c357_12 ?_
  refine w_lst c357_13 rfl (by decide) ?_
  refine r_go (t := 21) c357_14 rfl ?_
  refine r_ic c357_21 kI0 ?_
  exact r_ri c357_22 rt357 rfl rfl
theorem d357b2 {X : (Nat → Int32) × Nat} {d : Nat} {I I1 : Nat → Nat → Int32} {J J1 : Nat → Nat → Int64} {P : Nat → Nat → Value} {e r k r2 k2 : Nat} {x1 x2 x3 x4 : Int32} (hw : pm_W P r k r2 k2) (he : e < 100000) (h : f207 x1 x2 x3 x4 I J = some (.inr 2, I1, J1)) : pm_Fn X (d + 3) 357 0 [.ref 0, .int x1, .int x2, .int x3, .int x4, .ref 157] (I, J, P, pm_T0, e) (.inl (some (.int 1))) (I1, J1, P, pm_T0, e + 1) := by
  refine fn_s ml357 rfl rfl rfl ?_
  refine al5 c357_0 ?_
  refine r_ic c357_2 kI0 ?_
  refine al0 c357_3 ?_
  refine il1 c357_4 ?_
  refine il2 c357_5 ?_
  refine il3 c357_6 ?_
  refine il4 c357_7 ?_
  refine fx_catch (as := [.ref 0, .int x1, .int x2, .int x3, .int x4]) (S' := [.int 0, .ref 157]) (t := 2) (h9 := 17) (i9 := 6) (μ1 := (I1, J1, P, pm_T0, e + 1)) q357_9 rfl rfl rfl (by decide) k357 (by decide +kernel) c357_17 rfl (Nat.le_of_ble_eq_true rfl) (d207 hw he h) ?_
  refine r_ic c357_19 kI1 ?_
  exact r_ri c357_20 rt357 rfl rfl
theorem d358a {X : (Nat → Int32) × Nat} {d : Nat} {I I1 : Nat → Nat → Int32} {J J1 : Nat → Nat → Int64} {P : Nat → Nat → Value} {e r k r2 k2 : Nat} {x1 x2 x3 : Int32} {v : Int32} (hw : pm_W P r k r2 k2) (he : e < 100000) (h : f210 x1 x2 x3 I J = some (.inl v, I1, J1)) : pm_Fn X (d + 2) 358 0 [.ref 0, .int x1, .int x2, .int x3, .ref 157] (I, J, P, pm_T0, e) (.inl (some (.int 0))) (I1, pm_wl J1 157 0 v.toInt64, P, pm_T0, e) := by
  refine fn_s ml358 rfl rfl rfl ?_
  refine al4 c358_0 ?_
  refine r_ic c358_2 kI0 ?_
  refine al0 c358_3 ?_
  refine il1 c358_4 ?_
  refine il2 c358_5 ?_
  refine il3 c358_6 ?_
  refine cv4 q358_7 (v := .int v) (μ1 := (I1, J1, P, pm_T0, e)) (d210 hw he h) rfl ?_
  refine r_i2l c358_10 ?_
  refine w_lst c358_11 rfl (by decide) ?_
  refine r_go (t := 19) c358_12 rfl ?_
  refine r_ic c358_19 kI0 ?_
  exact r_ri c358_20 rt358 rfl rfl
theorem d358b2 {X : (Nat → Int32) × Nat} {d : Nat} {I I1 : Nat → Nat → Int32} {J J1 : Nat → Nat → Int64} {P : Nat → Nat → Value} {e r k r2 k2 : Nat} {x1 x2 x3 : Int32} (hw : pm_W P r k r2 k2) (he : e < 100000) (h : f210 x1 x2 x3 I J = some (.inr 2, I1, J1)) : pm_Fn X (d + 2) 358 0 [.ref 0, .int x1, .int x2, .int x3, .ref 157] (I, J, P, pm_T0, e) (.inl (some (.int 1))) (I1, J1, P, pm_T0, e + 1) := by
  refine fn_s ml358 rfl rfl rfl ?_
  refine al4 c358_0 ?_
  refine r_ic c358_2 kI0 ?_
  refine al0 c358_3 ?_
  refine il1 c358_4 ?_
  refine il2 c358_5 ?_
  refine il3 c358_6 ?_
  refine fx_catch (as := [.ref 0, .int x1, .int x2, .int x3]) (S' := [.int 0, .ref 157]) (t := 2) (h9 := 15) (i9 := 5) (μ1 := (I1, J1, P, pm_T0, e + 1)) q358_7 rfl rfl rfl (by decide) k358 (by decide +kernel) c358_15 rfl (Nat.le_of_ble_eq_true rfl) (d210 hw he h) ?_
  refine r_ic c358_17 kI1 ?_
  exact r_ri c358_18 rt358 rfl rfl
theorem d359a {X : (Nat → Int32) × Nat} {d : Nat} {I I1 : Nat → Nat → Int32} {J J1 : Nat → Nat → Int64} {P : Nat → Nat → Value} {e r k r2 k2 : Nat} {x1 x2 x3 x4 x5 : Int32} {v : Int32} (hw : pm_W P r k r2 k2) (he : e < 100000) (h : f211 r x1 x2 x3 x4 x5 I J = some (.inl v, I1, J1)) : pm_Fn X (d + 6) 359 0 [.ref 0, .int x1, .int x2, .int x3, .int x4, .int x5, .ref 157] (I, J, P, pm_T0, e) (.inl (some (.int 0))) (I1, pm_wl J1 157 0 v.toInt64, P, pm_T0, e) := by
  refine fn_s ml359 rfl rfl rfl ?_
  refine al6 c359_0 ?_
  refine r_ic c359_2 kI0 ?_
  refine al0 c359_3 ?_
  refine il1 c359_4 ?_
  refine il2 c359_5 ?_
  refine il3 c359_6 ?_
  refine il4 c359_7 ?_
  refine il5 c359_9 ?_
  refine cv6 q359_11 (v := .int v) (μ1 := (I1, J1, P, pm_T0, e)) (d211 hw he h) rfl ?_
  refine r_i2l c359_14 ?_
  refine w_lst c359_15 rfl (by decide) ?_
  refine r_go (t := 23) c359_16 rfl ?_
  refine r_ic c359_23 kI0 ?_
  exact r_ri c359_24 rt359 rfl rfl
theorem d359b2 {X : (Nat → Int32) × Nat} {d : Nat} {I I1 : Nat → Nat → Int32} {J J1 : Nat → Nat → Int64} {P : Nat → Nat → Value} {e r k r2 k2 : Nat} {x1 x2 x3 x4 x5 : Int32} (hw : pm_W P r k r2 k2) (he : e < 100000) (h : f211 r x1 x2 x3 x4 x5 I J = some (.inr 2, I1, J1)) : pm_Fn X (d + 6) 359 0 [.ref 0, .int x1, .int x2, .int x3, .int x4, .int x5, .ref 157] (I, J, P, pm_T0, e) (.inl (some (.int 1))) (I1, J1, P, pm_T0, e + 1) := by
  refine fn_s ml359 rfl rfl rfl ?_
  refine al6 c359_0 ?_
  refine r_ic c359_2 kI0 ?_
  refine al0 c359_3 ?_
  refine il1 c359_4 ?_
  refine il2 c359_5 ?_
  refine il3 c359_6 ?_
  refine il4 c359_7 ?_
  refine il5 c359_9 ?_
  refine fx_catch (as := [.ref 0, .int x1, .int x2, .int x3, .int x4, .int x5]) (S' := [.int 0, .ref 157]) (t := 2) (h9 := 19) (i9 := 7) (μ1 := (I1, J1, P, pm_T0, e + 1)) q359_11 rfl rfl rfl (by decide) k359 (by decide +kernel) c359_19 rfl (Nat.le_of_ble_eq_true rfl) (d211 hw he h) ?_
  refine r_ic c359_21 kI1 ?_
  exact r_ri c359_22 rt359 rfl rfl
theorem d360a {X : (Nat → Int32) × Nat} {d : Nat} {I I1 : Nat → Nat → Int32} {J J1 : Nat → Nat → Int64} {P : Nat → Nat → Value} {e r k r2 k2 : Nat} {x1 x2 x3 x4 x5 x6 : Int32} {v : Int32} (hw : pm_W P r k r2 k2) (he : e < 100000) (h : f213 r x1 x2 x3 x4 x5 x6 I J = some (.inl v, I1, J1)) : pm_Fn X (d + 6) 360 0 [.ref 0, .int x1, .int x2, .int x3, .int x4, .int x5, .int x6, .ref 157] (I, J, P, pm_T0, e) (.inl (some (.int 0))) (I1, pm_wl J1 157 0 v.toInt64, P, pm_T0, e) := by
  refine fn_s ml360 rfl rfl rfl ?_
  refine al7 c360_0 ?_
  refine r_ic c360_2 kI0 ?_
  refine al0 c360_3 ?_
  refine il1 c360_4 ?_
  refine il2 c360_5 ?_
  refine il3 c360_6 ?_
  refine il4 c360_7 ?_
  refine il5 c360_9 ?_
  refine il6 c360_11 ?_
  refine cv7 q360_13 (v := .int v) (μ1 := (I1, J1, P, pm_T0, e)) (d213 hw he h) rfl ?_
  refine r_i2l c360_16 ?_
  refine w_lst c360_17 rfl (by decide) ?_
  refine r_go (t := 25) c360_18 rfl ?_
  refine r_ic c360_25 kI0 ?_
  exact r_ri c360_26 rt360 rfl rfl
theorem d360b2 {X : (Nat → Int32) × Nat} {d : Nat} {I I1 : Nat → Nat → Int32} {J J1 : Nat → Nat → Int64} {P : Nat → Nat → Value} {e r k r2 k2 : Nat} {x1 x2 x3 x4 x5 x6 : Int32} (hw : pm_W P r k r2 k2) (he : e < 100000) (h : f213 r x1 x2 x3 x4 x5 x6 I J = some (.inr 2, I1, J1)) : pm_Fn X (d + 6) 360 0 [.ref 0, .int x1, .int x2, .int x3, .int x4, .int x5, .int x6, .ref 157] (I, J, P, pm_T0, e) (.inl (some (.int 1))) (I1, J1, P, pm_T0, e + 1) := by
  refine fn_s ml360 rfl rfl rfl ?_
  refine al7 c360_0 ?_
  refine r_ic c360_2 kI0 ?_
  refine al0 c360_3 ?_
  refine il1 c360_4 ?_
  refine il2 c360_5 ?_
  refine il3 c360_6 ?_
  refine il4 c360_7 ?_
  refine il5 c360_9 ?_
  refine il6 c360_11 ?_
  refine fx_catch (as := [.ref 0, .int x1, .int x2, .int x3, .int x4, .int x5, .int x6]) (S' := [.int 0, .ref 157]) (t := 2) (h9 := 21) (i9 := 8) (μ1 := (I1, J1, P, pm_T0, e + 1)) q360_13 rfl rfl rfl (by decide) k360 (by decide +kernel) c360_21 rfl (Nat.le_of_ble_eq_true rfl) (d213 hw he h) ?_
  refine r_ic c360_23 kI1 ?_
  exact r_ri c360_24 rt360 rfl rfl
