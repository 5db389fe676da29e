theorem nI_mul (a b : Nat) : nI a * nI b = nI (a * b) := by
  show Int32.ofNat a * Int32.ofNat b = Int32.ofNat (a * b)
  rw [Int32.ofNat_mul]
theorem wantC {σ : Nat → Nat → Int32} {s : Nat} (hc : okC (σ 82 s)) (h : wantP σ s 5 = true) : ∃ c, c < 12 ∧ σ 82 s = nI c := by
  rcases hc with hc | h2
  · simp [wantP, hc] at h
  · exact h2

