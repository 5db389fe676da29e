/-! ===== what holds between two calls, call by call ===== -/
theorem zq_near {n : Nat} {σ σ' : zS2} (e : ∀ b, 73 < b → b < 107 → ∀ j, σ' b j = σ b j) (e3 : σ' 67 33 = σ 67 33) (e4 : σ' 67 34 = σ 67 34) : zq n σ σ' := by
  have h1 : ∀ b, b ∈ zqL → 73 < b ∧ b < 107 := by decide
  have h2 : ∀ b, b ∈ [98, 99, 100, 101, 102, 104] → 73 < b ∧ b < 107 := by decide
  exact zq_of (fun b hb j => e b (h1 b hb).1 (h1 b hb).2 j) e3 e4 (fun s _ _ => ⟨e 93 (by decide) (by decide) s, e 94 (by decide) (by decide) s⟩) (fun c _ _ => e 81 (by decide) (by decide) c) (fun c k _ _ => e 74 (by decide) (by decide) _) (fun b hb k _ => e b (h2 b hb).1 (h2 b hb).2 k) (fun k _ i _ => e 103 (by decide) (by decide) _)
theorem stX_q {n k : Nat} {S S' : zS2} (q : zq n S S') (hk : k < n) (h : stX S k) : stX S' k := by
  unfold stX at *
  rw [q.step 98 (by decide) k hk, q.step 100 (by decide) k hk, q.step 101 (by decide) k hk]
  exact h
theorem CV.q {n : Nat} {S S' : zS2} (h : CV n S) (q : zq n S S') (he : S' 67 42 = S 67 42) : CV n S' := ⟨h.1.mv q he, h.2.1.mv (Nat.le_refl n) h.1.2.2.1 q.zof q.zst, fun k hk => stX_q q hk (h.2.2 k hk)⟩
theorem zkp_out {b : Nat} (h : b < 67 ∨ 107 ≤ b) (j : Nat) : zkp b j := by unfold zkp; omega
theorem zkp_67 {j : Nat} (h : j ≠ 33 ∧ j ≠ 34 ∧ j ≠ 44) : zkp 67 j := by unfold zkp; omega
theorem zkp_tx (j : Nat) : zkp 68 j := by unfold zkp; omega
theorem zkp_104 (j : Nat) : zkp 104 j := by unfold zkp; omega
