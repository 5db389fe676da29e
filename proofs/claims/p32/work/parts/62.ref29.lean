
theorem rnF_le {σ : Nat → Nat → Int32} {L q : Nat} (hL : L ≤ 30) (f : Nat) : ∀ {w : Bool} {p : Nat} {ks op : List Nat} {fr : List (Bool × Nat × Nat)}, rnF σ L f w p ks op fr = .inl q → q ≤ 30 := by
  induction f with
  | zero => intro w p ks op fr h; rw [rnF] at h; cases h
  | succ f ih =>
    intro w p ks op fr h
    by_cases hp : p < L
    · cases e : stF σ L w p ks op fr with
      | inl r =>
        rw [rnF_l hp e] at h
        injection h with h
        subst h
        exact stF_le hp hL e
      | inr t =>
        obtain ⟨w', p', ks', op', fr'⟩ := t
        rw [rnF_r hp e] at h
        exact ih h
    · rw [rnF_e hp] at h; cases h
theorem tok_31 {s : List Nat} (h : okL s) : ∀ x, x ∈ s → x < 2147483648 := by
  induction s with
  | nil => exact fun x hx => absurd hx (by simp)
  | cons y s ih =>
    intro x hx
    rcases List.mem_cons.mp hx with rfl | hx
    · rcases h.1 with q | q | q | q | q <;> omega
    · exact ih h.2.2 x hx

