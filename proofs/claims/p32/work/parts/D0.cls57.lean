/-! ===== letters of formulas ===== -/
/-- the constant's letters -/
def ltrs : List Int32 := [99, 114, 108, 109, 110, 105, 43, 45, 42, 60, 62, 61, 40, 41, 44]
theorem let_in {a : Int32} : letB a = true ↔ figB a = true ∨ a ∈ ltrs := by
  have hd : 0 < deedN a ↔ (a = 43 ∨ a = 45 ∨ a = 42 ∨ a = 60 ∨ a = 62 ∨ a = 61) := by
    unfold deedN
    by_cases h1 : a = 43
    · rw [h1]; decide
    · by_cases h2 : a = 45
      · rw [h2]; decide
      · by_cases h3 : a = 42
        · rw [h3]; decide
        · by_cases h4 : a = 60
          · rw [h4]; decide
          · by_cases h5 : a = 62
            · rw [h5]; decide
            · by_cases h6 : a = 61
              · rw [h6]; decide
              · simp [h1, h2, h3, h4, h5, h6]
  simp only [letB, funB, namB, Bool.or_eq_true, decide_eq_true_eq, hd, ltrs, List.mem_cons, List.not_mem_nil, or_false]
  constructor
  · rintro (h | h | h | h | h | h | h)
    · exact Or.inl h
    all_goals right
    · rcases h with (h | h) | h <;> simp [h]
    · rcases h with (h | h) | h <;> simp [h]
    · rcases h with h | h | h | h | h | h <;> simp [h]
    · simp [h]
    · simp [h]
    · simp [h]
  · rintro (h | h)
    · exact Or.inl h
    · rcases h with h | h | h | h | h | h | h | h | h | h | h | h | h | h | h <;> simp [h]
theorem chV_let {a : Int32} (h : letB a = true) : chV a := by
  rcases let_in.mp h with h | h
  · obtain ⟨t, h1, h2, e⟩ := figB_nI h
    have : ∀ k, k < 10 → chV (nI (48 + k)) := by
      intro k hk
      have q : k = 0 ∨ k = 1 ∨ k = 2 ∨ k = 3 ∨ k = 4 ∨ k = 5 ∨ k = 6 ∨ k = 7 ∨ k = 8 ∨ k = 9 := by omega
      rcases q with rfl | rfl | rfl | rfl | rfl | rfl | rfl | rfl | rfl | rfl <;> rfl
    rw [e, show t = 48 + (t - 48) by omega]
    exact this _ (by omega)
  · simp only [ltrs, List.mem_cons, List.not_mem_nil, or_false] at h
    rcases h with rfl | rfl | rfl | rfl | rfl | rfl | rfl | rfl | rfl | rfl | rfl | rfl | rfl | rfl | rfl <;> rfl
/-- a letter more -/
theorem TX.more {L : Nat} {S : zS2} (h : TX L S) (hL : L < 30) {a : Int32} (ha : letB a = true) : TX (L + 1) (zu (zu S 68 L a) 67 1 (nI (L + 1))) := by
  refine ⟨zu_eq _ _ _ _, hL, fun i hi => ?_⟩
  rw [zu_ne _ _ _ _ (by decide)]
  by_cases q : i = L
  · rw [q, zu_eq]; exact chV_let ha
  · rw [zu_nj _ _ _ _ _ q]; exact h.2.2 i hi
theorem TX.none {L : Nat} {S : zS2} (h : TX L S) : TX 0 (zu S 67 1 0) := ⟨zu_eq _ _ _ _, Nat.zero_le _, fun i hi => by rw [zu_ne _ _ _ _ (by decide)]; exact h.2.2 i hi⟩
theorem TX.mv {L : Nat} {S S' : zS2} (h : TX L S) (h1 : S' 67 1 = S 67 1) (h8 : ∀ i, S' 68 i = S 68 i) : TX L S' := ⟨h1.trans h.1, h.2.1, fun i hi => by rw [h8]; exact h.2.2 i hi⟩
