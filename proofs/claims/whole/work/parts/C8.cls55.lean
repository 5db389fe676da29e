theorem beginF_lo (S : zS2) {b : Nat} (hb : b < 67) (j : Nat) : beginF S b j = S b j := by
  have n : ∀ k, 67 ≤ k → b ≠ k := fun k hk => by omega
  simp [beginF, beD, clearF, clS, clP, beS, beP, zu, n 67 (by decide), n 74 (by decide), n 75 (by decide), n 76 (by decide), n 77 (by decide), n 78 (by decide), n 79 (by decide), n 80 (by decide), n 81 (by decide), n 82 (by decide), n 83 (by decide), n 84 (by decide), n 85 (by decide), n 86 (by decide), n 87 (by decide), n 88 (by decide), n 89 (by decide), n 90 (by decide), n 91 (by decide), n 92 (by decide), n 93 (by decide), n 94 (by decide), n 95 (by decide), n 96 (by decide), n 97 (by decide)]
theorem beginF_o (S : zS2) : beginF S 67 1 = S 67 1 ∧ (∀ i, beginF S 68 i = S 68 i) ∧ (∀ k, beginF S 104 k = S 104 k) ∧ beginF S 67 42 = S 67 42 := by
  refine ⟨?_, fun i => ?_, fun k => ?_, ?_⟩
  all_goals simp [beginF, beD, clearF, clS, clP, beS, beP, zu]
theorem chV_0 : chV 0 := rfl
theorem RK.cv {σ σ' : zS2} {π π' : zP2} {g g' : zG2} (h : RK 38 σ σ' π π' g g') : CV 0 (beginF σ') ∧ TX 0 (beginF σ') ∧ (∀ i, beginF σ' 68 i = 0) ∧ beginF σ' 67 1 = 0 ∧ ∀ k, stN (beginF σ') k ≤ 30 := by
  obtain ⟨e1, e2, e3, e4⟩ := beginF_o σ'
  have z : ∀ b, 67 ≤ b → b < 68 + 38 → ∀ j, σ' b j = 0 := fun b h1 h2 j => (h.2.1 b h1 h2 j).1
  have h1 : beginF σ' 67 1 = 0 := e1.trans (z 67 (by decide) (by decide) 1)
  have h8 : ∀ i, beginF σ' 68 i = 0 := fun i => (e2 i).trans (z 68 (by decide) (by decide) i)
  have hb := RV_begin (S := σ') (z 67 (by decide) (by decide) 42)
  refine ⟨⟨hb.1, hb.2, fun k hk => absurd hk (Nat.not_lt_zero k)⟩, ⟨h1, by decide, fun i _ => by rw [h8]; exact chV_0⟩, h8, h1, fun k => ?_⟩
  unfold stN
  rw [e3, z 104 (by decide) (by decide)]
  decide
/-- both are made: the world of the class, the reference, no step -/
theorem start_cw {μ0 : zMem} {σ σ1 σ2 : zS2} {π π1 π2 : zP2} {g g1 g2 : zG2} (h0 : zK μ0 0 = 8 + 8) (hN : zN μ0 = 1) (hD : DI σ1 π1) (h : RK 38 σ σ2 π π2 g g2) (hs : ∀ b, b < 67 → ∀ j, σ b j = σ1 b j ∧ π b j = π1 b j) {μ : zMem} (hg : zgr (zals μ0 dl) μ) (hn : 107 ≤ zN μ) : CW 0 (beginF σ2) μ (beginF σ2) π2 := by
  obtain ⟨-, -, h8, h1, -⟩ := h.cv
  have f : ∀ b, b < 67 → ∀ j, beginF σ2 b j = σ1 b j := fun b hb j => by
    have e : beginF σ2 b j = σ2 b j := beginF_lo σ2 hb j
    rw [e, (h.1 b hb j).1, (hs b hb j).1]
  have p : ∀ b, b < 67 → ∀ j, π2 b j = π1 b j := fun b hb j => by rw [(h.1 b hb j).2.1, (hs b hb j).2]
  have hD2 : DI (beginF σ2) π2 := by
    obtain ⟨⟨a1, a2, a3, a4, a5, a6⟩, b, ⟨c1, c2, c3⟩, ⟨d1, d2⟩, t5, t35, e1, e2⟩ := hD
    exact ⟨⟨(p _ (by decide) _).trans a1, (p _ (by decide) _).trans a2, (p _ (by decide) _).trans a3, (p _ (by decide) _).trans a4, (p _ (by decide) _).trans a5, (p _ (by decide) _).trans a6⟩, (f _ (by decide) _).trans b, ⟨(p _ (by decide) _).trans c1, (f _ (by decide) _).trans c2, fun i => (f _ (by decide) _).trans (c3 i)⟩, ⟨(p _ (by decide) _).trans d1, (p _ (by decide) _).trans d2⟩, t5.mv (fun b q1 q2 j => ⟨f b (by omega) j, p b (by omega) j⟩), t35.mv (fun b q1 q2 j => ⟨f b (by omega) j, p b (by omega) j⟩), (f _ (by decide) _).trans e1, (f _ (by decide) _).trans e2⟩
  exact hD2.cw h0 hN hg hn h1 (fun i _ => h8 i)