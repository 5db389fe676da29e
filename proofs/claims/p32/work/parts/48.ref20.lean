
/-! ===== the text, read by the reference ===== -/
theorem figB_nI {x : Int32} (h : figB x = true) : ∃ t, 48 ≤ t ∧ t ≤ 57 ∧ x = nI t := by
  unfold figB at h
  rw [Bool.and_eq_true, decide_eq_true_eq, decide_eq_true_eq, Int32.le_iff_toInt_le, Int32.le_iff_toInt_le] at h
  have e1 : (48 : Int32).toInt = 48 := rfl
  have e2 : (57 : Int32).toInt = 57 := rfl
  refine ⟨x.toInt.toNat, by omega, by omega, ?_⟩
  apply Int32.toInt_inj.mp
  rw [show nI x.toInt.toNat = Int32.ofNat x.toInt.toNat from rfl, Int32.toInt_ofNat_of_lt (by omega)]
  omega
/-- figures from a place on, at most f; what they come to -/
def ndF (σ : Nat → Nat → Int32) (L : Nat) : Nat → Nat → Nat
  | _, 0 => 0
  | p, f + 1 => if p < L ∧ figB (σ 68 p) = true then 1 + ndF σ L (p + 1) f else 0
def nvF (σ : Nat → Nat → Int32) (p : Nat) : Nat → Nat
  | 0 => 0
  | d + 1 => 10 * nvF σ p d + ((σ 68 (p + d)).toNatClampNeg - 48)
theorem ndF_s (σ : Nat → Nat → Int32) (L p f : Nat) : ndF σ L p (f + 1) = if p < L ∧ figB (σ 68 p) = true then 1 + ndF σ L (p + 1) f else 0 := rfl
theorem ndF_le (σ : Nat → Nat → Int32) (L : Nat) (f : Nat) : ∀ p, ndF σ L p f ≤ f := by
  induction f with
  | zero => exact fun _ => Nat.le_refl 0
  | succ f ih =>
    intro p
    unfold ndF
    have := ih (p + 1)
    split <;> omega
theorem ndF_L (σ : Nat → Nat → Int32) (L : Nat) (f : Nat) : ∀ p, p ≤ L → p + ndF σ L p f ≤ L := by
  induction f with
  | zero => exact fun p h => h
  | succ f ih =>
    intro p h
    unfold ndF
    split
    · have := ih (p + 1) (by omega)
      omega
    · exact h
theorem nv_s {σ : Nat → Nat → Int32} {p i : Nat} (h : figB (σ 68 (p + i)) = true) : nI 10 * nI (nvF σ p i) + σ 68 (p + i) - 48 = nI (nvF σ p (i + 1)) := by
  obtain ⟨t, h1, h2, e⟩ := figB_nI h
  simp only [nvF]
  rw [e, nI_mul, nI_clamp (show t < 2147483648 by omega), nI_add]
  exact (nI_sub (a := 10 * nvF σ p i + t) (b := 48) (by omega)).trans (congrArg nI (by omega))

