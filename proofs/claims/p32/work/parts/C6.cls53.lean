theorem TI.mo {t : Nat} (ht : ta t) {μ : zMem} {σ : zS2} {π : zP2} (h : TI t 12 5 5 σ π) (hB : zTb t μ π) (hz : zZf t μ σ π) (S : zS2) : mo t μ σ π (beginF S) := by
  obtain ⟨v1, v2, v3, v4⟩ := beginF_v S
  obtain ⟨-, ⟨b1, b2, b3⟩, -, d, f, k⟩ := id h
  refine ⟨⟨hB, h.nm, ?_, ?_, b2.trans v4.symm, b3.trans v3.symm, fun s hs h1 => ?_, fun c hc => ⟨t + 1, (d c hc).2.2.1, zFo_0 ht hz hB.1 S hc⟩⟩, ⟨fun i => i, fun i hi => ⟨hi, (d i hi).2.1⟩, fun c hc => ⟨c, hc, rfl⟩, fun i j hij hj => Or.inr ⟨?_, hij⟩⟩⟩
  · intro x hx
    simp only [lks, List.mem_cons, List.not_mem_nil, or_false] at hx
    rcases hx with rfl | rfl | rfl | rfl | rfl | rfl | rfl | rfl | rfl | rfl | rfl | rfl | rfl | rfl | rfl <;> intro c hc <;> dsimp only at hc ⊢
    · exact ((d c hc).2.2.2.2.1).trans (v1 c hc).1.symm
    · exact ((d c hc).2.2.2.2.2.2).trans (v1 c hc).2.2.1.symm
    · exact ((d c hc).2.2.2.2.2.1).trans (v1 c hc).2.2.2.1.symm
    · exact ((f c hc).2.1).trans (v2 c hc).1.symm
    · exact ((f c hc).2.2).trans (v2 c hc).2.1.symm
    · exact ((k c hc).2.2 1 (by decide) (by decide)).trans (v2 c hc).2.2.1.symm
    · exact ((k c hc).2.2 2 (by decide) (by decide)).trans (v2 c hc).2.2.2.1.symm
    · exact ((k c hc).2.2 3 (by decide) (by decide)).trans (v2 c hc).2.2.2.2.1.symm
    · exact ((k c hc).2.2 4 (by decide) (by decide)).trans (v2 c hc).2.2.2.2.2.1.symm
    · exact ((k c hc).2.2 5 (by decide) (by decide)).trans (v2 c hc).2.2.2.2.2.2.1.symm
    · exact ((k c hc).2.2 6 (by decide) (by decide)).trans (v2 c hc).2.2.2.2.2.2.2.1.symm
    · exact ((k c hc).2.2 7 (by decide) (by decide)).trans (v2 c hc).2.2.2.2.2.2.2.2.1.symm
    · exact ((k c hc).2.2 8 (by decide) (by decide)).trans (v2 c hc).2.2.2.2.2.2.2.2.2.1.symm
    · exact ((k c hc).2.2 9 (by decide) (by decide)).trans (v2 c hc).2.2.2.2.2.2.2.2.2.2.1.symm
    · exact ((k c hc).2.2 10 (by decide) (by decide)).trans (v2 c hc).2.2.2.2.2.2.2.2.2.2.2.symm
  · intro i hi
    rw [b1, b_0]
    by_cases q : i < 12
    · rw [(v1 i q).2.1]; simp
    · simp [q]
  · rw [(v2 s hs).2.2.1] at h1
    exact absurd h1 (by decide)
  · rw [(v1 i (by omega)).2.2.2.1, (v1 j hj).2.2.2.1]
theorem DI.cw {μ0 μ : zMem} {σ : zS2} {π : zP2} (h : DI σ π) (h0 : zK μ0 0 = 8 + 8) (hN : zN μ0 = 1) (hg : zgr (zals μ0 dl) μ) (hn : 70 ≤ zN μ) {S : zS2} (hS1 : beginF S 67 1 = 0) (hS8 : ∀ i, i < 30 → beginF S 68 i = 0) : CW 0 (beginF S) μ σ π := by
  obtain ⟨⟨a1, a2, a3, a4, a5, a6⟩, b, ⟨c1, c2, c3⟩, ⟨d1, d2⟩, t5, t35, e1, e2⟩ := h
  have hb5 : zN μ0 + dq5.length = 5 := by rw [hN]; rfl
  have hb35 : zN μ0 + ((dq5 ++ [(6 + 8, 0)]) ++ tl 12 5 5).length = 35 := by rw [hN, List.length_append, tl_len]; rfl
  have hb65 : zN μ0 + ((((dq5 ++ [(6 + 8, 0)]) ++ tl 12 5 5) ++ [(6 + 8, 0)]) ++ tl 12 5 5).length = 65 := by rw [hN, List.length_append, List.length_append, List.length_append, tl_len]; rfl
  have hb66 : zN μ0 + (((((dq5 ++ [(6 + 8, 0)]) ++ tl 12 5 5) ++ [(6 + 8, 0)]) ++ tl 12 5 5) ++ [(7, 40)]).length = 66 := by rw [hN, List.length_append, List.length_append, List.length_append, List.length_append, tl_len]; rfl
  have g66 : zgr (zals μ0 (((((dq5 ++ [(6 + 8, 0)]) ++ tl 12 5 5) ++ [(6 + 8, 0)]) ++ tl 12 5 5) ++ [(7, 40)])) (zals μ0 dl) := by
    unfold dl; rw [← zals_snoc]; exact zgr_al _ _ _
  have g65 : zgr (zals μ0 ((((dq5 ++ [(6 + 8, 0)]) ++ tl 12 5 5) ++ [(6 + 8, 0)]) ++ tl 12 5 5)) (zals μ0 (((((dq5 ++ [(6 + 8, 0)]) ++ tl 12 5 5) ++ [(6 + 8, 0)]) ++ tl 12 5 5) ++ [(7, 40)])) := by
    rw [← zals_snoc]; exact zgr_al _ _ _
  have g35 : zgr (zals μ0 ((((dq5 ++ [(6 + 8, 0)]) ++ tl 12 5 5) ++ [(6 + 8, 0)]) ++ tl 12 5 5)) μ := (g65.tr g66).tr hg
  have g5 : zgr (zals μ0 ((dq5 ++ [(6 + 8, 0)]) ++ tl 12 5 5)) μ := by
    refine zgr.tr ?_ g35
    rw [← zals_app μ0 ((((dq5 ++ [(6 + 8, 0)]) ++ tl 12 5 5) ++ [(6 + 8, 0)])) (tl 12 5 5), ← zals_app μ0 ((dq5 ++ [(6 + 8, 0)]) ++ tl 12 5 5) [(6 + 8, 0)]]
    exact (zals_gr _ _).tr (zals_gr _ _)
  have gq : zgr (zals μ0 dq5) μ := by
    refine zgr.tr ?_ g5
    rw [← zals_app, ← zals_app]
    exact (zals_gr _ _).tr (zals_gr _ _)
  obtain ⟨B5, z5⟩ := t5.tb hb5 g5
  obtain ⟨B35, z35⟩ := t35.tb hb35 g35
  have N5 : zN (zals μ0 dq5) = 5 := by rw [zals_N]; exact hb5
  have kq : ∀ {p x}, dq5[p]? = some x → p < 4 → zK μ (1 + p) = x.1 ∧ zL μ (1 + p) = x.2 := fun {p x} hx hp => by
    have h1 := zals_at dq5 μ0 p x hx
    rw [hN] at h1
    have h2 := gq.2 (1 + p) (by rw [N5]; omega)
    exact ⟨h2.1.trans h1.1, h2.2.trans h1.2⟩
  have k0 : zK μ 0 = 8 + 8 := ((gq.2 0 (by rw [N5]; omega)).1.trans (zals_o dq5 μ0 0 (by omega)).1).trans h0
  have k65 : zK μ 65 = 7 ∧ zL μ 65 = 40 := by
    have h1 := zals_last (μ := μ0) (x := (7, 40)) hb65
    have h2 := (g66.tr hg).2 65 (by rw [zals_N, hb66]; decide)
    exact ⟨h2.1.trans h1.1, h2.2.trans h1.2⟩
  have k66 : zK μ 66 = 5 + 8 := by
    have h1 := zals_last (μ := μ0) (x := (5 + 8, 0)) hb66
    have h2 := hg.2 66 (by unfold dl; rw [zals_N1 hb66]; decide)
    exact h2.1.trans h1.1
  have q1 := kq (p := 0) (x := (7 + 8, 0)) rfl (by decide)
  have q2 := kq (p := 1) (x := (2, 30)) rfl (by decide)
  have q3 := kq (p := 2) (x := (2 + 8, 0)) rfl (by decide)
  have q4 := kq (p := 3) (x := (0, 30)) rfl (by decide)
  exact ⟨⟨hn, k0, a1, a2, a3, a4, ⟨a5, k65.1, k65.2⟩, ⟨a6, k66⟩, ⟨q1.1, c1, q2.1, q2.2⟩, q3.1, d1, d2, q4.1, q4.2⟩, ⟨B35, t35.nm, z35⟩, z5, t5.mo ta5 B5 z5 S, b, fun k hk => absurd hk (Nat.not_lt_zero k), ⟨e1, e2⟩, c2.trans hS1.symm, fun i hi => (c3 i).trans (hS8 i hi).symm⟩
