/-! ===== undo, type, formula ===== -/
set_option maxHeartbeats 1000000 in
theorem p_undo {l : Launch} {Z : zZ} (hZ : zSt l Z) (hO : zOps Z) (hX : zXs Z) (hN : zNs Z) (hSs : zSs Z) {n L : Nat} {μ : zMem} {σ : zS2} {π : zP2} {g : zG2} (h : LW n L μ σ π) (h6 : zK μ 106 = 3 ∧ zL μ 106 = 1) : zPr l Z mL_undo hhL_undo mX9_undo [.ref 0, .ref 106] [.ref 67] false (zA4 μ σ π g) := by
  have hn7 := h.cw.nn
  rcases Nat.eq_zero_or_pos n with hn | hn
  · have hw := w_undo_ise (Q := fun μx => μx = zA4 μ σ π g) (μ := zA4 μ σ π g) hZ h.cw.k0 hN (x_X8_undo hZ h.cw hX hn)
    exact pw_no1 (t := 1) (kx := 8) h h6 hw (by decide) (by decide) (c_X9_undo_no hZ h.1 (by rw [h.2.1.1.2.1, hn]; rfl))
  · obtain ⟨m, rfl⟩ : ∃ m, n = m + 1 := ⟨n - 1, by omega⟩
    have qa : zq (m + 1) σ (zu σ 67 42 (nI m)) := zq_near (fun b h1 _ j => zu_ne _ _ _ _ (by omega) j) (zu_nj _ _ _ _ _ (by decide)) (zu_nj _ _ _ _ _ (by decide))
    have hw1 := h.2.1.1.rw1
    have hCR : CR m (zu σ 67 42 (nI m)) := ⟨hw1.2.2.1, fun k hk => stX_q qa (by omega) (h.2.1.2.2 k (by omega)), hw1.2.2.2.1, hw1.2.2.2.2, h.2.1.2.1.mv (Nat.le_succ m) h.2.1.1.2.2.1 qa.zof (zq_less qa (Nat.le_succ m)).zst⟩
    refine pw_ok (kx := 8) (Q := fun x μx => x = nI m ∧ zKp m (rpF (zu σ 67 42 (nI m)) m) μ σ π g μx) (bo := false) (w_undo hZ h.cw.k0 (zCt_mono (c_X8_undo hZ hO h.cw h.2.1.1.1 (fun b j hb => zu_ne _ _ _ _ hb j) (zu_nj _ _ _ _ _ (by decide)) (zu_nj _ _ _ _ _ (by decide)) (zu_nj _ _ _ _ _ (by decide)) hCR) (fun r μ' q => ⟨_, q.1, rfl, q.2⟩)) (kq_out h h6)) (by decide) (fun x μ1 σ1 π1 g1 hq g' => ?_)
    obtain ⟨rfl, μ', σ', π', gc, he, hC, hg, hz⟩ := hq
    obtain ⟨rfl, rfl, -, ek, hm⟩ := zA4_inj he
    rw [hm, ek]
    obtain ⟨h2, h4⟩ := h.undo hC hg hz
    have e := fun b a1 a2 j => (hz b a1 a2 j).1
    have hRV := (h.2.1.q (qcl (n := m + 1) e) (e 67 (by decide) (by decide) 42)).1
    exact ⟨h2.1.1, zCt_mono (c_X9_undo_ok hZ h2.1 hRV) (fun r μy q => by
      obtain ⟨rfl, g2, e1, e2⟩ := q
      exact ⟨rfl, m, L, μ', _, _, g2, e1, e2, h2, (hg.2 106 (by omega)).1.trans h6.1, (hg.2 106 (by omega)).2.trans h6.2, h4⟩)⟩
set_option maxHeartbeats 1000000 in
theorem p_type {l : Launch} {Z : zZ} (hZ : zSt l Z) (hO : zOps Z) (hX : zXs Z) (hN : zNs Z) (hSs : zSs Z) {n L : Nat} {μ : zMem} {σ : zS2} {π : zP2} {g : zG2} (h : LW n L μ σ π) (h6 : zK μ 106 = 3 ∧ zL μ 106 = 1) (a : Int32) : zPr l Z mL_type hhL_type mX9_type [.ref 0, .int a, .ref 106] [.ref 67, .int a] false (zA4 μ σ π g) := by
  have hT := h.2.2.1
  cases ha : letB a with
  | false =>
    have hw := w_type_iae (Q := fun μx => μx = zA4 μ σ π g) (a := a) (μ := zA4 μ σ π g) hZ h.cw.k0 hN (x_X8_type_1 hZ hSs h.cw hX hT ha)
    exact pw_no1 (t := 1) (kx := 2) h h6 hw (by decide) (by decide) (c_X9_type_no hZ h.1 (by rw [ha]; exact gs_1 _ _) (by decide))
  | true =>
    by_cases hL : L < 30
    · refine pw_ok (kx := 2) (Q := fun x μx => x = nI (L + 1) ∧ ∃ σ', μx = zA4 μ σ' π g ∧ CW n (zu (zu σ 68 L a) 67 1 (nI (L + 1))) μ σ' π ∧ zPf2 σ σ') (bo := false) (w_type (Q := fun x μx => x = nI (L + 1) ∧ ∃ σ', μx = zA4 μ σ' π g ∧ CW n (zu (zu σ 68 L a) 67 1 (nI (L + 1))) μ σ' π ∧ zPf2 σ σ') hZ h.cw.k0 (zCt_mono (c_X8_type hZ hSs h.cw hT hL ha) (fun r μ' q => ⟨_, q.1, rfl, q.2⟩)) (fun x μx q => ?_)) (by decide) (fun x μ1 σ1 π1 g1 hq g' => ?_)
      · obtain ⟨-, σ', e, -⟩ := q
        exact ⟨μ, σ', π, g, e, h6⟩
      · obtain ⟨rfl, σ', he, hC, hp⟩ := hq
        obtain ⟨rfl, rfl, -, ek, hm⟩ := zA4_inj he
        rw [hm, ek]
        have e : ∀ b, 67 ≤ b → ∀ j, σ1 b j = σ b j := fun b hb j => hp b j (by omega) (by omega)
        have hl : LW n (L + 1) μ (zu (zu (zu σ1 67 45 0) 68 L a) 67 1 (nI (L + 1))) _ := h.txt hC hp (fun b j h1 h2 => by simp only [zu, h1, h2, false_and, if_false]) (fun b j h1 h2 => by
            have z1 : ¬ (b = 67 ∧ j = 1) := fun q => h2 ⟨q.1, Or.inl q.2⟩
            have z2 : ¬ (b = 67 ∧ j = 45) := fun q => h2 ⟨q.1, Or.inr q.2⟩
            simp only [zu, h1, z1, z2, false_and, if_false]) ((zu_eq _ _ _ _).trans (zu_eq _ _ _ _).symm) (fun i => by
            simp only [zu, e 68 (by decide), show ¬ (68 : Nat) = 67 by decide, false_and, if_false]) ((hT.mv (S' := zu σ1 67 45 0) ((zu_nj _ _ _ _ _ (by decide)).trans (e 67 (by decide) 1)) (fun i => (zu_ne _ _ _ _ (by decide) i).trans (e 68 (by decide) i))).more hL ha)
        exact ⟨h.1.1, zCt_mono (c_X9_type_ok hZ h.1 hL ((e 67 (by decide) 1).trans hT.1) ha) (fun r μy q => ⟨q.1, n, L + 1, μ, _, _, g', q.2, fun _ _ => rfl, hl, h6.1, h6.2, (zu_nj _ _ _ _ _ (by decide)).trans ((zu_ne _ _ _ _ (by decide) _).trans (zu_eq _ _ _ _))⟩)⟩
    · have hL2 := hT.2.1
      have eL : L = 30 := by omega
      have hw := w_type_ise (Q := fun μx => μx = zA4 μ σ π g) (a := a) (μ := zA4 μ σ π g) hZ h.cw.k0 hN (x_X8_type_2 hZ hSs h.cw hX hT (by omega) ha)
      exact pw_no1 (t := 2) (kx := 2) h h6 hw (by decide) (by decide) (c_X9_type_no hZ h.1 (by rw [ha, hT.1, eL]; exact gs_2 _) (by decide))
