/-! THE TAPE: the reference's calls -/
section Tv
variable {I : Nat → Nat → Int32} {J : Nat → Nat → Int64}
theorem e235x {k p : Nat} {lo hi : Int32} (h : pm_MX k p I) : f235 lo hi I J = some (0, I, J) := by
  unfold f235
  rw [v224x h, if_neg (by decide)]
theorem e235 {c : Nat → Nat} {L a st lo hi : Nat} (h : pm_MF c L a I) (hst : st = pm_sk c (L - a) a) (hl : lo ≤ 9999) (hh : hi ≤ 9999) : (pm_nk c L lo hi st = 0 → ∃ I', f235 (nI lo) (nI hi) I J = some (nI (pm_nmv c L (L - st) st 0), I', J) ∧ pm_MF c L (pm_stp c L st) I') ∧ (pm_nk c L lo hi st ≠ 0 → ∃ I', f235 (nI lo) (nI hi) I J = some (0, I', J) ∧ pm_MX (pm_nk c L lo hi st) st I') := by
  obtain ⟨I1, e1, m1⟩ := MF_here (J := J) h
  rw [← hst] at e1 m1
  have hL := m1.1.2.1
  have hs := m1.2.1
  have hv := v236n (I := I1) (i := st) (fun j hj => (m1.1.2.2 j hj).1)
  unfold f235
  rw [v224f h, if_pos rfl, e1, zt_bind]
  dsimp only
  rw [hv, m1.2.2.1]
  by_cases k : pm_kd c L st = 2
  · rw [decide_eq_true k, if_pos rfl]
    obtain ⟨g1, g2⟩ := l235 (J := J) (st := st) (lo := lo) (hi := hi) hs hl hh (L - st) st 0 pm_FU I1 (by omega) (by unfold pm_FU; omega) (by omega) m1
    rw [nI_0] at g1 g2
    obtain ⟨r1, r2⟩ := rv_s (c := c) (L := L) (L - st) st 0 0 (Or.inl rfl) (by omega)
    have en : pm_nk c L lo hi st = (if pm_nmv c L (L - st) st 0 < lo then 2 else if hi < pm_nmv c L (L - st) st 0 then 2 else 0) := by unfold pm_nk; rw [if_pos k]
    have es : pm_stp c L st = pm_rn c L 2 (L - st) st := by unfold pm_stp; rw [k, if_neg (by decide), if_neg (by decide)]
    rw [en, es]
    by_cases a1 : pm_nmv c L (L - st) st 0 < lo
    · rw [if_pos a1]
      exact ⟨fun q => by omega, fun _ => g2 (by omega)⟩
    · rw [if_neg a1]
      by_cases a2 : hi < pm_nmv c L (L - st) st 0
      · rw [if_pos a2]
        exact ⟨fun q => by omega, fun _ => g2 (by omega)⟩
      · rw [if_neg a2]
        have e : pm_rfv c L (L - st) st 0 = pm_nmv c L (L - st) st 0 := by omega
        rw [e] at g1
        exact ⟨fun _ => g1 (by omega), fun q => absurd rfl q⟩
  · have en : pm_nk c L lo hi st = 1 := by unfold pm_nk; rw [if_neg k]
    obtain ⟨I2, e2, x2⟩ := MF_wrong (J := J) (k := 1) (p := st) m1 (by omega) hs
    have e2' : f232 1 (nI st) I1 J = some ((), I2, J) := e2
    rw [decide_eq_false k, if_neg (by decide), en, e2', zt_bind]
    exact ⟨fun q => by omega, fun _ => ⟨I2, rfl, x2⟩⟩
theorem kd_4 {c : Nat → Nat} {L i s : Nat} (hs : s < 48 ∨ (57 < s ∧ s < 97) ∨ 122 < s) : (pm_kd c L i = 4 ∧ c i = s) ↔ (i < L ∧ c i = s) := by
  unfold pm_kd
  constructor
  · intro h
    refine ⟨?_, h.2⟩
    by_cases b : i < L
    · exact b
    · rw [if_neg b] at h
      omega
  · intro h
    rw [if_pos h.1, if_neg (by omega), if_neg (by omega)]
    exact ⟨rfl, h.2⟩
theorem e238x {k p : Nat} {s : Int32} (h : pm_MX k p I) : f238 s I J = some ((), I, J) := by
  unfold f238
  rw [v224x h, if_neg (by decide), if_neg (by decide)]
theorem e238 {c : Nat → Nat} {L a st s : Nat} (h : pm_MF c L a I) (hst : st = pm_sk c (L - a) a) (h0 : 0 < s) (hs : s < 256) : ((st < L ∧ c st = s) → ∃ I', f238 (nI s) I J = some ((), I', J) ∧ pm_MF c L (st + 1) I') ∧ (¬ (st < L ∧ c st = s) → ∃ I', f238 (nI s) I J = some ((), I', J) ∧ pm_MX 1 st I') := by
  obtain ⟨I1, e1, m1⟩ := MF_here (J := J) h
  rw [← hst] at e1 m1
  have hL := m1.1.2.1
  unfold f238
  rw [v224f h, if_pos rfl, e1, zt_bind]
  dsimp only
  rw [v224f m1, m1.2.2.1]
  by_cases w : st < L ∧ c st = s
  · rw [if_pos (show (if st < L then nI (c st) else 0) = nI s by rw [if_pos w.1, w.2]), if_pos rfl, pm_lt_eq, nI_1]
    exact ⟨fun _ => ⟨_, rfl, MT_w m1.1 (by omega), by omega, zt_ws, by rw [zt_w2 (by omega)]; exact m1.2.2.2⟩, fun q => absurd w q⟩
  · obtain ⟨I2, e2, x2⟩ := MF_wrong (J := J) (k := 1) (p := st) m1 (by omega) m1.2.1
    have e2' : f232 1 (nI st) I1 J = some ((), I2, J) := e2
    have ne : ¬ (if st < L then nI (c st) else 0) = nI s := by
      by_cases b : st < L
      · have := (m1.1.2.2 st b).1
        rw [if_pos b, zt_eq (by omega) (by omega)]
        exact fun q => w ⟨b, q⟩
      · rw [if_neg b, ← nI_0, zt_eq (by omega) (by omega)]
        omega
    rw [if_neg ne, e2', zt_bind]
    dsimp only
    rw [v224x x2, if_neg (by decide)]
    exact ⟨fun q => absurd q w, fun _ => ⟨I2, rfl, x2⟩⟩
theorem e225 {c : Nat → Nat} {L a st : Nat} (h : pm_MF c L a I) (hst : st = pm_sk c (L - a) a) : ∃ I', f225 I J = some (decide (st < L), I', J) ∧ pm_MF c L st I' := by
  obtain ⟨I1, e1, m1⟩ := MF_here (J := J) h
  rw [← hst] at e1 m1
  have hL := m1.1.2.1
  have := m1.2.1
  refine ⟨I1, ?_, m1⟩
  unfold f225
  rw [e1, zt_bind]
  dsimp only
  rw [m1.2.2.1, m1.1.1, nI_toInt (by omega), nI_toInt (by omega)]
  by_cases b : st < L
  · rw [if_pos (by omega), decide_eq_true b]
  · rw [if_neg (by omega), decide_eq_false b]
end Tv
