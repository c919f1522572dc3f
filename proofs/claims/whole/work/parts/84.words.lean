/-! WORDS: which of some -/
def pm_wb (c : Nat → Nat) (L i s : Nat) : Bool := decide (pm_wle c L i = pm_tl (s + 2)) && (List.range (pm_tl (s + 2))).all (fun j => decide (c (i + j) = pm_tc (s + 2) j))
theorem wb_q {c : Nat → Nat} {L i s : Nat} : pm_wb c L i s = true ↔ pm_wq c L i s := by
  unfold pm_wb pm_wq
  rw [Bool.and_eq_true, List.all_eq_true, decide_eq_true_eq]
  constructor
  · rintro ⟨h1, h2⟩
    exact ⟨h1, fun j hj => of_decide_eq_true (h2 j (List.mem_range.mpr hj))⟩
  · rintro ⟨h1, h2⟩
    exact ⟨h1, fun j hj => decide_eq_true (h2 j (List.mem_range.mp hj))⟩
def pm_fst (c : Nat → Nat) (L i : Nat) : List Nat → Nat
  | [] => 0
  | s :: r => if pm_wb c L i s = true then 0 else pm_fst c L i r + 1
theorem fst_e {c : Nat → Nat} {L i : Nat} : ∀ ws : List Nat, pm_fst c L i ws < ws.length → ∃ s, s ∈ ws ∧ pm_wq c L i s
  | [], h => by simp at h
  | s :: r, h => by
    rw [pm_fst] at h
    by_cases q : pm_wb c L i s = true
    · exact ⟨s, by simp, wb_q.mp q⟩
    · rw [if_neg q, List.length_cons] at h
      obtain ⟨s', m, w⟩ := fst_e (c := c) (L := L) (i := i) r (by omega)
      exact ⟨s', by simp [m], w⟩
def pm_nmi (c : Nat → Nat) (L i : Nat) : Nat := pm_fst c L i [16, 18, 20, 22, 24, 26, 28, 30]
def pm_pri (c : Nat → Nat) (L i : Nat) : Nat := if pm_wb c L i 12 = true then 1 else if pm_wb c L i 14 = true then 2 else 0
theorem fst_n {c : Nat → Nat} {L i s : Nat} (ws : List Nat) (h : pm_fst c L i ws < ws.length) (hd : ∀ q, q ∈ ws → pm_txt (s + 2) ≠ pm_txt (q + 2)) : pm_wb c L i s = false := by
  obtain ⟨q, m, w⟩ := fst_e ws h
  cases e : pm_wb c L i s with
  | false => rfl
  | true => exact absurd (wq_n (wb_q.mp e) w) (hd q m)
theorem wS_t : ∀ t : Nat, t < 24 → 0 < t → pm_wS (2 * t) := by
  unfold pm_wS
  decide +kernel
theorem wS_6 : ∀ t : Nat, t < 24 → 0 < t → t ≠ 3 → pm_tl (2 * t + 2) ≤ 6 := by decide +kernel
theorem wS_0 : ∀ t : Nat, t < 24 → 0 < t → 0 < pm_tl (2 * t + 2) := by decide +kernel
def pm_ni (n t : Nat) : Int32 := if t < n then nI t else -1
section Wq
variable {I : Nat → Nat → Int32} {J : Nat → Nat → Int64}
theorem e132b {c : Nat → Nat} {L i : Nat} (h : pm_CF c L i I) (hi : i ≤ L) (s : Nat) (ht : 0 < pm_tl (s + 2)) : f132 s I J = some (pm_wb c L i s, I, J) := by
  obtain ⟨a, b⟩ := e132 (J := J) (s := s) h hi ht
  cases e : pm_wb c L i s with
  | true => exact a (wb_q.mp e)
  | false => exact b (fun w => by rw [wb_q.mpr w] at e; cases e)
theorem wv_t {c : Nat → Nat} {L i : Nat} (hi : i ≤ L) (t : Nat) (h1 : t < 24) (h2 : 0 < t) (h3 : t ≠ 3) (s : Nat) (hs : s = 2 * t) : (nI (pm_wv c L i) = nI (pm_wN (pm_tc (s + 2)) 0 (pm_tl (s + 2)))) ↔ pm_wb c L i s = true := by
  subst hs
  rw [wv_s hi (wS_t t h1 h2) (wS_6 t h1 h2 h3), wb_q]
theorem f231_t (t : Nat) (h1 : t < 24) (h2 : 0 < t) (h3 : t ≠ 3) (s : Nat) (hs : s = 2 * t) : f231 s I J = some (nI (pm_wN (pm_tc (s + 2)) 0 (pm_tl (s + 2))), I, J) := by
  subst hs
  exact e231 (wS_t t h1 h2) (wS_6 t h1 h2 h3)
theorem e24 {c : Nat → Nat} {L i : Nat} (h : pm_CF c L i I) (hi : i ≤ L) : f24 I J = some ((if pm_pri c L i = 0 then -1 else nI (11 + pm_pri c L i)), I, J) := by
  unfold f24 pm_pri
  rw [e132b h hi 12 (by decide), zt_bind]
  dsimp only
  by_cases a : pm_wb c L i 12 = true
  · rw [if_pos a, if_pos a]; rfl
  · rw [if_neg a, if_neg a, e132b h hi 14 (by decide), zt_bind]
    dsimp only
    by_cases b : pm_wb c L i 14 = true
    · rw [if_pos b, if_pos b]; rfl
    · rw [if_neg b, if_neg b]; rfl
theorem e25 {c : Nat → Nat} {L i : Nat} (h : pm_CF c L i I) (hi : i ≤ L) : f25 I J = some (pm_ni 8 (pm_nmi c L i), I, J) := by
  unfold f25 pm_nmi
  rw [e132b h hi 16 (by decide), zt_bind, pm_fst]
  dsimp only
  by_cases a0 : pm_wb c L i 16 = true
  · rw [if_pos a0, if_pos a0]; rfl
  rw [if_neg a0, if_neg a0]
  rw [e132b h hi 18 (by decide), zt_bind, pm_fst]
  dsimp only
  by_cases a1 : pm_wb c L i 18 = true
  · rw [if_pos a1, if_pos a1]; rfl
  rw [if_neg a1, if_neg a1]
  rw [e132b h hi 20 (by decide), zt_bind, pm_fst]
  dsimp only
  by_cases a2 : pm_wb c L i 20 = true
  · rw [if_pos a2, if_pos a2]; rfl
  rw [if_neg a2, if_neg a2]
  rw [e132b h hi 22 (by decide), zt_bind, pm_fst]
  dsimp only
  by_cases a3 : pm_wb c L i 22 = true
  · rw [if_pos a3, if_pos a3]; rfl
  rw [if_neg a3, if_neg a3]
  rw [e132b h hi 24 (by decide), zt_bind, pm_fst]
  dsimp only
  by_cases a4 : pm_wb c L i 24 = true
  · rw [if_pos a4, if_pos a4]; rfl
  rw [if_neg a4, if_neg a4]
  rw [e132b h hi 26 (by decide), zt_bind, pm_fst]
  dsimp only
  by_cases a5 : pm_wb c L i 26 = true
  · rw [if_pos a5, if_pos a5]; rfl
  rw [if_neg a5, if_neg a5]
  rw [e132b h hi 28 (by decide), zt_bind, pm_fst]
  dsimp only
  by_cases a6 : pm_wb c L i 28 = true
  · rw [if_pos a6, if_pos a6]; rfl
  rw [if_neg a6, if_neg a6]
  rw [e132b h hi 30 (by decide), zt_bind, pm_fst]
  dsimp only
  by_cases a7 : pm_wb c L i 30 = true
  · rw [if_pos a7, if_pos a7]; rfl
  rw [if_neg a7, if_neg a7]
  rfl
theorem e248 {c : Nat → Nat} {L a i : Nat} (h : pm_MF c L a I) (hi : i = pm_sk c (L - a) a) : ∃ I', f248 I J = some (pm_ni 8 (pm_nmi c L i), I', J) ∧ pm_MF c L i I' := by
  obtain ⟨I1, e1, m1⟩ := e229 (J := J) h hi
  refine ⟨I1, ?_, m1⟩
  have hl := m1.2.1
  unfold f248 pm_nmi
  rw [e1, zt_bind]
  dsimp only
  rw [f231_t 8 (by decide) (by decide) (by decide) 16 rfl, zt_bind, pm_fst]
  dsimp only
  by_cases a0 : pm_wb c L i 16 = true
  · rw [if_pos ((wv_t hl 8 (by decide) (by decide) (by decide) 16 rfl).mpr a0), if_pos a0]; rfl
  rw [if_neg (fun q => a0 ((wv_t hl 8 (by decide) (by decide) (by decide) 16 rfl).mp q)), if_neg a0]
  rw [f231_t 9 (by decide) (by decide) (by decide) 18 rfl, zt_bind, pm_fst]
  dsimp only
  by_cases a1 : pm_wb c L i 18 = true
  · rw [if_pos ((wv_t hl 9 (by decide) (by decide) (by decide) 18 rfl).mpr a1), if_pos a1]; rfl
  rw [if_neg (fun q => a1 ((wv_t hl 9 (by decide) (by decide) (by decide) 18 rfl).mp q)), if_neg a1]
  rw [f231_t 10 (by decide) (by decide) (by decide) 20 rfl, zt_bind, pm_fst]
  dsimp only
  by_cases a2 : pm_wb c L i 20 = true
  · rw [if_pos ((wv_t hl 10 (by decide) (by decide) (by decide) 20 rfl).mpr a2), if_pos a2]; rfl
  rw [if_neg (fun q => a2 ((wv_t hl 10 (by decide) (by decide) (by decide) 20 rfl).mp q)), if_neg a2]
  rw [f231_t 11 (by decide) (by decide) (by decide) 22 rfl, zt_bind, pm_fst]
  dsimp only
  by_cases a3 : pm_wb c L i 22 = true
  · rw [if_pos ((wv_t hl 11 (by decide) (by decide) (by decide) 22 rfl).mpr a3), if_pos a3]; rfl
  rw [if_neg (fun q => a3 ((wv_t hl 11 (by decide) (by decide) (by decide) 22 rfl).mp q)), if_neg a3]
  rw [f231_t 12 (by decide) (by decide) (by decide) 24 rfl, zt_bind, pm_fst]
  dsimp only
  by_cases a4 : pm_wb c L i 24 = true
  · rw [if_pos ((wv_t hl 12 (by decide) (by decide) (by decide) 24 rfl).mpr a4), if_pos a4]; rfl
  rw [if_neg (fun q => a4 ((wv_t hl 12 (by decide) (by decide) (by decide) 24 rfl).mp q)), if_neg a4]
  rw [f231_t 13 (by decide) (by decide) (by decide) 26 rfl, zt_bind, pm_fst]
  dsimp only
  by_cases a5 : pm_wb c L i 26 = true
  · rw [if_pos ((wv_t hl 13 (by decide) (by decide) (by decide) 26 rfl).mpr a5), if_pos a5]; rfl
  rw [if_neg (fun q => a5 ((wv_t hl 13 (by decide) (by decide) (by decide) 26 rfl).mp q)), if_neg a5]
  rw [f231_t 14 (by decide) (by decide) (by decide) 28 rfl, zt_bind, pm_fst]
  dsimp only
  by_cases a6 : pm_wb c L i 28 = true
  · rw [if_pos ((wv_t hl 14 (by decide) (by decide) (by decide) 28 rfl).mpr a6), if_pos a6]; rfl
  rw [if_neg (fun q => a6 ((wv_t hl 14 (by decide) (by decide) (by decide) 28 rfl).mp q)), if_neg a6]
  rw [f231_t 15 (by decide) (by decide) (by decide) 30 rfl, zt_bind, pm_fst]
  dsimp only
  by_cases a7 : pm_wb c L i 30 = true
  · rw [if_pos ((wv_t hl 15 (by decide) (by decide) (by decide) 30 rfl).mpr a7), if_pos a7]; rfl
  rw [if_neg (fun q => a7 ((wv_t hl 15 (by decide) (by decide) (by decide) 30 rfl).mp q)), if_neg a7]
  rfl
end Wq
