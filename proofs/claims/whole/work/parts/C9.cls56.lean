/-! ===== between two calls of the law ===== -/
theorem CW.out {n : Nat} {S : zS2} {μ μ' : zMem} {σ σ' : zS2} {π π' : zP2} (h : CW n S μ σ π) (hg : zgr μ μ') (e : ∀ b, b < 67 ∨ 107 ≤ b → b < zN μ → ∀ j, σ' b j = σ b j ∧ π' b j = π b j) : CW n S μ' σ' π' := by
  have hn := h.nn
  have im : ∀ t, ta t → ∀ b, (t ≤ b ∧ b < t + 30) ∨ (Im b ∧ b < zN μ) → (b < 67 ∨ 107 ≤ b) ∧ b < zN μ := fun t ht b hb => by unfold Im at hb; unfold ta at ht; omega
  refine h.mv hg (fun b hb j => (e b (by omega) (by omega) j).1) (fun b hb j => (e b (by omega) (by omega) j).2) ⟨h.m.1.fr hg (fun b hb j => (e b (im 5 ta5 b hb).1 (im 5 ta5 b hb).2 j).1) (fun b hb j => (e b (im 5 ta5 b hb).1 (im 5 ta5 b hb).2 j).2), h.m.2.mv (fun j => (e _ (by omega) (by omega) j).2) (fun c _ => rfl)⟩ ⟨h.t35.1.mv hg (fun b j h1 h2 _ => (e b (by omega) (by omega) j).2), ⟨fun i hi => by rw [(e _ (by omega) (by omega) _).1]; exact h.t35.2.1.1 i hi, fun i hi => by rw [(e _ (by omega) (by omega) _).1]; exact h.t35.2.1.2 i hi⟩⟩ (fun _ _ _ _ => rfl) (fun _ _ _ _ => rfl) rfl (fun _ => rfl)
/-- what holds between two calls: n steps, L letters; the reference is its own state -/
def LW (n L : Nat) (μ : zMem) (σ : zS2) (π : zP2) : Prop := zRef μ π ∧ CV n σ ∧ TX L σ ∧ (∀ k, stN σ k ≤ 30) ∧ CW n σ μ σ π
theorem LW.cw {n L : Nat} {μ : zMem} {σ : zS2} {π : zP2} (h : LW n L μ σ π) : CW n σ μ σ π := h.2.2.2.2
/-- the reference goes on, the class stays: the same but for junk -/
theorem LW.ref {n L L' : Nat} {μ : zMem} {σ σ' : zS2} {π : zP2} (h : LW n L μ σ π) (hq : zq n σ σ') (h1 : σ' 67 1 = σ 67 1) (h8 : ∀ i, σ' 68 i = σ 68 i) (ho : ∀ b, b < 67 ∨ 107 ≤ b → ∀ j, σ' b j = σ b j) (hV : CV n σ') (hT : TX L' σ') (h3 : ∀ k, stN σ' k ≤ 30) : LW n L' μ σ' π :=
  ⟨h.1, hV, hT, h3, (h.cw.zq hq h1 h8 (fun k _ => h.2.2.2.1 k)).out zgr.rf (fun b hb _ j => ⟨ho b hb j, rfl⟩)⟩
/-- the class goes on as well: its world for a state like the reference's -/
theorem LW.both {n n' L L' : Nat} {μ μ' : zMem} {σ σc σr S : zS2} {π πc : zP2} {g gc : zG2} (h : LW n L μ σ π) (hg : zgr μ μ') (hc : CW n' S μ' σc πc) (hz : zcl σ σc π πc g gc) (hq : zq n' S σr) (h3 : ∀ k, k < n' → stN S k ≤ 30) (h1 : σr 67 1 = S 67 1) (h8 : ∀ i, σr 68 i = S 68 i) {σ' : zS2} (hr : ∀ b, 67 ≤ b → b < 107 → ∀ j, σ' b j = σr b j) (ho : ∀ b, b < 67 ∨ 107 ≤ b → ∀ j, σ' b j = σc b j) (hV : CV n' σ') (hT : TX L' σ') (h4 : ∀ k, stN σ' k ≤ 30) (hqq : zq n' σr σ') (h1' : σ' 67 1 = σr 67 1) (h8' : ∀ i, σ' 68 i = σr 68 i) (h5 : ∀ k, k < n' → stN σr k ≤ 30) : LW n' L' μ' σ' πc := by
  refine ⟨⟨?_, fun j a kd m hx => ?_⟩, hV, hT, h4, ((hc.zq hq h1 h8 h3).zq hqq h1' h8' h5).out zgr.rf (fun b hb _ j => ⟨ho b hb j, rfl⟩)⟩
  · have hn := h.cw.nn
    exact (hg.2 67 (by omega)).1.trans h.1.1
  · have hn := h.cw.nn
    obtain ⟨r1, r2, r3⟩ := h.1.2 j a kd m hx
    have ha : a < 107 := (by decide : ∀ x, x ∈ zrl → x.2.1 < 107) _ hx
    exact ⟨((hz 67 (by decide) (by decide) j).2.1).trans r1, ((hg.2 a (by omega)).1).trans r2, ((hg.2 a (by omega)).2).trans r3⟩
theorem start_lw {μ0 : zMem} {σ σ1 σ2 : zS2} {π π1 π2 : zP2} {g g1 g2 : zG2} (h0 : zK μ0 0 = 8 + 8) (hN : zN μ0 = 1) (hD : DI σ1 π1) (h : RK 38 σ σ2 π π2 g g2) (hs : ∀ b, b < 67 → ∀ j, σ b j = σ1 b j ∧ π b j = π1 b j) {μ : zMem} (hg : zgr (zals μ0 dl) μ) (hn : 107 ≤ zN μ) (hr : zRef μ π2) : LW 0 0 μ (beginF σ2) π2 := by
  obtain ⟨c1, c2, -, -, c5⟩ := h.cv
  exact ⟨hr, c1, c2, c5, start_cw (g1 := g) h0 hN hD h hs hg hn⟩