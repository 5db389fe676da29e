theorem zbiw_0 {A B : Prop} [Decidable A] [Decidable B] : zbi (decide A && decide B) = 0 ↔ ¬ (A ∧ B) := by rw [zbi_0, Bool.eq_false_iff, ne_eq, Bool.and_eq_true, decide_eq_true_eq, decide_eq_true_eq]
theorem zbiw_ne {A B : Prop} [Decidable A] [Decidable B] : ¬ zbi (decide A && decide B) = 0 ↔ (A ∧ B) := by rw [zbi_ne, Bool.and_eq_true, decide_eq_true_eq, decide_eq_true_eq]

