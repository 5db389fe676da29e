/-! ===== what was made is a world: no step, all as the reference begins ===== -/
theorem TI.tb {t : Nat} {μ : zMem} {σ : zS2} {π : zP2} (h : TI t 12 5 5 σ π) {μ0 : zMem} {q : List (Nat × Nat)} (e : zN μ0 + q.length = t) (hg : zgr (zals μ0 ((q ++ [(6 + 8, 0)]) ++ tl 12 5 5)) μ) : zTb t μ π ∧ zZf t μ σ π := by
  have hN : zN (zals μ0 (q ++ [(6 + 8, 0)])) = t + 1 := zals_N1 e
  have ka : ∀ {p x}, (tl 12 5 5)[p]? = some x → zK μ (t + 1 + p) = x.1 ∧ zL μ (t + 1 + p) = x.2 := fun {p x} hx => by
    have hp : p < (tl 12 5 5).length := (List.getElem?_eq_some_iff.mp hx).1
    have h1 := zals_at _ (zals μ0 (q ++ [(6 + 8, 0)])) p x hx
    rw [hN, zals_app] at h1
    have hlt : t + 1 + p < zN (zals μ0 ((q ++ [(6 + 8, 0)]) ++ tl 12 5 5)) := by
      rw [← zals_app, zals_N, hN]; omega
    have h2 := hg.2 _ hlt
    exact ⟨h2.1.trans h1.1, h2.2.trans h1.2⟩
  have hNN : zN (zals μ0 ((q ++ [(6 + 8, 0)]) ++ tl 12 5 5)) = t + 30 := by rw [← zals_app, zals_N, hN, tl_len]
  have kt : zK μ t = 6 + 8 := by
    have h2 := hg.2 t (by rw [hNN]; omega)
    rw [h2.1, ← zals_app, (zals_o _ _ t (by rw [hN]; omega)).1]
    exact (zals_last e).1
  obtain ⟨⟨a1, a2, a3, a4, a5, a6⟩, ⟨b1, b2, b3⟩, ⟨c1, c2, c3⟩, d, f, k⟩ := h
  have k3 := ka (p := 2) (x := (4, 12)) (tl_p rfl)
  have k4 := ka (p := 3) (x := (4, 12)) (tl_p rfl)
  have k5 := ka (p := 4) (x := (5, 5)) (tl_p rfl)
  have k6 := ka (p := 5) (x := (6, 5)) (tl_p rfl)
  have k7 := ka (p := 6) (x := (0, 33)) (tl_p rfl)
  have k1 := ka (p := 0) (x := (9, 0)) (tl_p rfl)
  have k2 := ka (p := 1) (x := (0, 1)) (tl_p rfl)
  refine ⟨⟨by have := hg.1; rw [hNN] at this; exact this, kt, a1, ⟨a2, k3.1, k3.2⟩, ⟨a3, k4.1, k4.2⟩, ⟨a4, k5.1, k5.2⟩, ⟨a5, k6.1, k6.2⟩, ⟨a6, k7.1, k7.2⟩, fun i hi => ⟨(d i hi).1, ?_⟩, fun i hi => ⟨(f i hi).1, ?_⟩, fun i hi => ⟨(k i hi).1, ?_⟩⟩, ⟨k1.1, c1, k2.1, k2.2, c3, c2⟩⟩
  · have := (ka (p := 7 + i) (tl_cell hi)).1
    rw [show t + 1 + (7 + i) = t + 8 + i by omega] at this
    exact this
  · have := (ka (p := 19 + i) (tl_rd hi)).1
    rw [show t + 1 + (19 + i) = t + 20 + i by omega] at this
    exact this
  · have := (ka (p := 24 + i) (tl_sv hi)).1
    rw [show t + 1 + (24 + i) = t + 25 + i by omega] at this
    exact this
theorem TI.nm {t : Nat} {σ : zS2} {π : zP2} (h : TI t 12 5 5 σ π) : zNm t σ := ⟨fun i hi => (h.2.2.2.1 i hi).2.2.2.1, fun i hi => (h.2.2.2.2.2 i hi).2.1⟩

