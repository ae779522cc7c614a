theorem zu_rg {g : Nat → Int} {i N : Nat} {x : Int} (h : ∀ k, k < N → 0 ≤ g k ∧ g k < 256) (hx : 0 ≤ x ∧ x < 256) : ∀ k, k < N → 0 ≤ zu g i x k ∧ zu g i x k < 256 := by
  intro k hk
  by_cases e : k = i
  · rw [e, zu_s]; exact hx
  · rw [zu_n e]; exact h k hk
theorem and_or_d {a b c : Prop} (h : a ∧ (b ∨ c)) : (a ∧ b) ∨ (a ∧ c) := h.2.elim (fun q => Or.inl ⟨h.1, q⟩) (fun q => Or.inr ⟨h.1, q⟩)
