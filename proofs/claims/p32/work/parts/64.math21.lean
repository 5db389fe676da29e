
theorem chgF_now (σ : Nat → Nat → Int32) (st : Nat) : chgF σ st 67 34 = σ 67 34 := by
  unfold chgF
  split
  · unfold setCF
    split
    · unfold giveF
      rw [zu_ne _ _ _ _ (by decide), dpR_rd _ _ (by decide)]
      simp only [dzP, show ¬ (67 : Nat) = 79 by decide, false_and, if_false]
      exact gvP_ne σ _ _ _ _ (by decide) (by decide) (by decide) (by decide) (by decide)
    split
    · rw [becomeF_now]; simp [zu]
    · simp [zu]
  split
  · exact readF_ne _ _ _ (by decide) _
  · unfold setSF
    split <;> simp [zu]
theorem tickF_now (σ : Nat → Nat → Int32) {E : Nat} (h : σ 67 34 = nI E) (k : Nat) : (tickF σ k).1 67 34 = nI (E + k) := by
  induction k with
  | zero => exact h
  | succ k ih =>
    show (setF 6 (nowF (tickF σ k).1)).1 67 34 = _
    rw [setF_now]
    unfold nowF
    rw [zu_eq, ih]
    exact nI_1 _
theorem doF_now (σ : Nat → Nat → Int32) {E : Nat} (h : σ 67 34 = nI E) (st : Nat) : (doF σ st).1 67 34 = nI (if σ 98 st = 10 then E + stC σ st else E) := by
  unfold doF
  split
  · rename_i q
    exact tickF_now σ h _
  · rename_i q
    rw [setF_now, chgF_now]
    exact h
theorem beginF_now (σ : Nat → Nat → Int32) : beginF σ 67 34 = nI 0 := by simp [beginF, zu]; rfl

