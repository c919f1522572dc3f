/-! FRAMES: the words -/
def pm_ag (A : List Nat) (F : List (Nat × Nat)) (I I' : Nat → Nat → Int32) : Prop := ∀ a f : Nat, a ∉ A → (a, f) ∉ F → I' a f = I a f
def pm_aj (J J' : Nat → Nat → Int64) : Prop := ∀ a : Nat, a ≠ 105 → J' a = J a
/-- whatever the answer is: only the cells of A, the fields of F have changed -/
def pm_fr {α : Type} (A : List Nat) (F : List (Nat × Nat)) (I0 : Nat → Nat → Int32) (J0 : Nat → Nat → Int64) (o : Option (α × (Nat → Nat → Int32) × (Nat → Nat → Int64))) : Prop := ∀ (v : α) (I' : Nat → Nat → Int32) (J' : Nat → Nat → Int64), o = some (v, I', J') → pm_ag A F I0 I' ∧ pm_aj J0 J'
section Fr
variable {α β : Type} {A A' : List Nat} {F F' : List (Nat × Nat)} {I0 I I' : Nat → Nat → Int32} {J0 J J' : Nat → Nat → Int64}
theorem ag_refl : pm_ag A F I I := fun _ _ _ _ => rfl
theorem aj_refl : pm_aj J J := fun _ _ => rfl
theorem ag_trans (h : pm_ag A F I0 I) (h2 : pm_ag A' F' I I') (hA : A' ⊆ A) (hF : F' ⊆ F) : pm_ag A F I0 I' := fun a f ha hf => (h2 a f (fun h => ha (hA h)) (fun h => hf (hF h))).trans (h a f ha hf)
theorem ag_mono (h2 : pm_ag A' F' I I') (hA : A' ⊆ A) (hF : F' ⊆ F) : pm_ag A F I I' := ag_trans ag_refl h2 hA hF
theorem aj_trans (h : pm_aj J0 J) (h2 : pm_aj J J') : pm_aj J0 J' := fun a ha => (h2 a ha).trans (h a ha)
theorem ag_cell (h : pm_ag A F I I') {a : Nat} (ha : a ∉ A) (hf : ∀ f, (a, f) ∉ F) : I' a = I a := funext fun f => h a f ha (hf f)
theorem ag_w {a f : Nat} {x : Int32} (h : pm_ag A F I0 I) (hm : a ∈ A ∨ (a, f) ∈ F) : pm_ag A F I0 (pm_w I a f x) := by
  intro b g hb hg
  rw [← h b g hb hg]
  unfold pm_w va_up
  split
  · rename_i e
    subst e
    unfold upd
    split
    · rename_i e
      subst e
      exact absurd hm (by rintro (h | h); exact hb h; exact hg h)
    · rfl
  · rfl
theorem ag_up {a : Nat} {w : Nat → Int32} (h : pm_ag A F I0 I) (hm : a ∈ A) : pm_ag A F I0 (va_up I a w) := by
  intro b g hb hg
  rw [← h b g hb hg]
  unfold va_up
  split
  · rename_i e
    subst e
    exact absurd hm hb
  · rfl
theorem ag_pw {a len : Nat} {i x : Int32} (h : pm_ag A F I0 I) (hm : a ∈ A) : pm_ag A F I0 (pm_pw I a len i x) := ag_up h hm
theorem ag_ss {f p x : Int32} (h : pm_ag A F I0 I) (hm : 5 ∈ A) : pm_ag A F I0 (pm_sset I f p x) := by
  unfold pm_sset
  split
  · exact ag_pw h hm
  · exact h
theorem ag_cp {a b n : Nat} (h : pm_ag A F I0 I) (hm : b ∈ A) : pm_ag A F I0 (pm_cpw I a b n) := ag_up h hm
theorem aj_w {f : Nat} {x : Int64} (h : pm_aj J0 J) : pm_aj J0 (pm_wl J 105 f x) := by
  intro a ha
  rw [← h a ha]
  unfold pm_wl va_up
  rw [if_neg ha]
theorem fr_some {v : α} (h : pm_ag A F I0 I) (hj : pm_aj J0 J) : pm_fr A F I0 J0 (some (v, I, J)) := by
  intro v I' J' e
  cases e
  exact ⟨h, hj⟩
theorem fr_none : pm_fr (α := α) A F I0 J0 none := by
  intro v I' J' e
  cases e
theorem fr_ite {c : Prop} [Decidable c] {x y : Option (α × (Nat → Nat → Int32) × (Nat → Nat → Int64))} (h : pm_fr A F I0 J0 x) (h2 : pm_fr A F I0 J0 y) : pm_fr A F I0 J0 (if c then x else y) := by
  split
  · exact h
  · exact h2
theorem fr_gd {c : Bool} {x : Option (α × (Nat → Nat → Int32) × (Nat → Nat → Int64))} (h : pm_fr A F I0 J0 x) : pm_fr A F I0 J0 (pm_gd c x) := by
  intro v I' J' e
  exact h v I' J' (pm_gd_sp e).2
theorem fr_ltI {k : (Nat → Nat → Int32) → Option (α × (Nat → Nat → Int32) × (Nat → Nat → Int64))} (h : pm_ag A F I0 I) (hk : ∀ I', pm_ag A F I0 I' → pm_fr A F I0 J0 (k I')) : pm_fr A F I0 J0 (pm_lt I k) := hk I h
theorem fr_ltJ {k : (Nat → Nat → Int64) → Option (α × (Nat → Nat → Int32) × (Nat → Nat → Int64))} (h : pm_aj J0 J) (hk : ∀ J', pm_aj J0 J' → pm_fr A F I0 J0 (k J')) : pm_fr A F I0 J0 (pm_lt J k) := hk J h
theorem fr_tl {o : Option (α × (Nat → Nat → Int32) × (Nat → Nat → Int64))} (h : pm_fr A' F' I J o) (hA : A' ⊆ A) (hF : F' ⊆ F) (hI : pm_ag A F I0 I) (hJ : pm_aj J0 J) : pm_fr A F I0 J0 o := by
  intro v I' J' e
  exact ⟨ag_trans hI (h v I' J' e).1 hA hF, aj_trans hJ (h v I' J' e).2⟩
theorem fr_bd {o : Option (α × (Nat → Nat → Int32) × (Nat → Nat → Int64))} {g : (α × (Nat → Nat → Int32) × (Nat → Nat → Int64)) → Option (β × (Nat → Nat → Int32) × (Nat → Nat → Int64))} (h : pm_fr A' F' I J o) (hA : A' ⊆ A) (hF : F' ⊆ F) (hI : pm_ag A F I0 I) (hJ : pm_aj J0 J) (k : ∀ v I' J', pm_ag A F I0 I' → pm_aj J0 J' → pm_fr A F I0 J0 (g (v, I', J'))) : pm_fr A F I0 J0 (o.bind g) := by
  intro v I' J' e
  obtain ⟨⟨v1, I1, J1⟩, e1, e2⟩ := pm_bd_sp e
  exact k v1 I1 J1 (ag_trans hI (h _ _ _ e1).1 hA hF) (aj_trans hJ (h _ _ _ e1).2) v I' J' e2
theorem fr_xb {o : Option ((α ⊕ Nat) × (Nat → Nat → Int32) × (Nat → Nat → Int64))} {g : α → (Nat → Nat → Int32) → (Nat → Nat → Int64) → Option ((β ⊕ Nat) × (Nat → Nat → Int32) × (Nat → Nat → Int64))} (h : pm_fr A' F' I J o) (hA : A' ⊆ A) (hF : F' ⊆ F) (hI : pm_ag A F I0 I) (hJ : pm_aj J0 J) (k : ∀ v I' J', pm_ag A F I0 I' → pm_aj J0 J' → pm_fr A F I0 J0 (g v I' J')) : pm_fr A F I0 J0 (pm_xb o g) := by
  intro v I' J' e
  unfold pm_xb at e
  split at e
  · rename_i v1 I1 J1
    exact k v1 I1 J1 (ag_trans hI (h _ _ _ rfl).1 hA hF) (aj_trans hJ (h _ _ _ rfl).2) v I' J' e
  · rename_i t I1 J1
    cases e
    exact ⟨ag_trans hI (h _ _ _ rfl).1 hA hF, aj_trans hJ (h _ _ _ rfl).2⟩
  · cases e
end Fr
theorem zt_sub {A B : List Nat} (h : A.all (fun a => B.elem a) = true) : A ⊆ B := by
  intro a ha
  rw [List.all_eq_true] at h
  exact List.mem_of_elem_eq_true (h a ha)
theorem zt_subF {A B : List (Nat × Nat)} (h : A.all (fun a => B.elem a) = true) : A ⊆ B := by
  intro a ha
  rw [List.all_eq_true] at h
  exact List.mem_of_elem_eq_true (h a ha)
theorem fr_ltN {α γ : Type} {A : List Nat} {F : List (Nat × Nat)} {I0 : Nat → Nat → Int32} {J0 : Nat → Nat → Int64} {x : γ} {k : γ → Option (α × (Nat → Nat → Int32) × (Nat → Nat → Int64))} (hk : ∀ y, pm_fr A F I0 J0 (k y)) : pm_fr A F I0 J0 (pm_lt x k) := hk x
