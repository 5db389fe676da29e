
def txN (σ : Nat → Nat → Int32) (k : Nat) : Nat := (σ 68 k).toNatClampNeg
def nmBad (σ : Nat → Nat → Int32) (L p : Nat) : Bool := decide (p + 1 = L) || (!figB (σ 68 (p + 1)) || (decide (σ 68 p ≠ 99) && decide (53 ≤ txN σ (p + 1))))
def nmTwo (σ : Nat → Nat → Int32) (L p : Nat) : Bool := decide (σ 68 p = 99) && (decide (txN σ (p + 1) = 49) && (decide (p + 2 < L) && (decide (σ 68 (p + 2) = 48) || decide (σ 68 (p + 2) = 49))))
def nmBase (s : Int32) : Nat := if s = 99 then 20000 else if s = 114 then 21000 else 22000
def nmV (σ : Nat → Nat → Int32) (L p : Nat) : Nat := if nmTwo σ L p = true then 10 + (txN σ (p + 2) - 48) else txN σ (p + 1) - 48
def nmP (σ : Nat → Nat → Int32) (L p : Nat) : Nat := if nmTwo σ L p = true then p + 3 else p + 2
theorem figB_tx {σ : Nat → Nat → Int32} {k : Nat} (h : figB (σ 68 k) = true) : 48 ≤ txN σ k ∧ txN σ k ≤ 57 ∧ σ 68 k = nI (txN σ k) := by
  obtain ⟨t, h1, h2, e⟩ := figB_nI h
  have : txN σ k = t := by unfold txN; rw [e]; exact nI_clamp (by omega)
  rw [this]
  exact ⟨h1, h2, e⟩

theorem sub48 {σ : Nat → Nat → Int32} {k : Nat} (h : figB (σ 68 k) = true) : σ 68 k - 48 = nI (txN σ k - 48) := by
  obtain ⟨h1, h2, e⟩ := figB_tx h
  obtain ⟨t, ht⟩ : ∃ t, t = txN σ k := ⟨_, rfl⟩
  rw [← ht] at h1 e ⊢
  rw [e]
  exact nI_sub (a := t) (b := 48) h1

