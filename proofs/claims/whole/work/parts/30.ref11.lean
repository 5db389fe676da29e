set_option maxRecDepth 100000 in
set_option maxHeartbeats 4000000 in
theorem c_X9_worksOut {l : Launch} {Z : zZ} (hZ : zSt l Z) {μ : zMem} {σ : Nat → Nat → Int32} {π : Nat → Nat → Option Nat} {g : Nat → Nat → Int64} (hS : zRef μ π) (hD : DepthOK σ) (hW : ∀ c, c < 12 → WFc σ c) : zCt l Z mX9_worksOut 3 0 0 [.ref 67] (zA4 μ σ π g) (fun r μ' => r = none ∧ ∃ g', μ' = zA4 μ (worksF σ) π g' ∧ zge g g') := by
  refine zCt_of hZ mpX9_worksOut (Nat.le_of_ble_eq_true rfl) (L := [some (.ref 67), none]) rfl (fun τ hY => ?_)
  have hT := hY.1
  have loop : ∀ n σ1 g1, kcn σ1 ≤ n → DepthOK σ1 → (∀ c, c < 12 → WFc σ1 c) → zge g g1 → wkI σ1 n = worksF σ → zJ τ (zFn τ (fun r μ' => r = none ∧ ∃ g', μ' = zA4 μ (worksF σ) π g' ∧ zge g g') 0 0) 5 [some (.ref 67), some (.int (oI (ndP σ1 12)))] [] (zA4 μ σ1 π g1) 0 0 := by
    intro n
    induction n with
    | zero =>
      intro σ1 g1 hk hD1 hW1 hg1 he
      have hq := kcn_0 (Nat.le_zero.mp hk)
      rw [hq]
      rw [wkI_none hq] at he
      subst he
      refine J_iload_n (i := 1) hT dX9_worksOut_5 rfl rfl ?_
      refine J_if_lt (tgt := 44) hT dX9_worksOut_6 (by decide) (fun _ => ?_) (fun q => absurd (by decide) q)
      exact J_vret hT dX9_worksOut_44 rfl (⟨rfl, g1, rfl, hg1⟩) (Nat.le_refl _) (Nat.le_refl _)
    | succ n ih =>
      intro σ1 g1 hk hD1 hW1 hg1 he
      cases hq : ndP σ1 12 with
      | none =>
        rw [wkI_none hq] at he
        subst he
        refine J_iload_n (i := 1) hT dX9_worksOut_5 rfl rfl ?_
        refine J_if_lt (tgt := 44) hT dX9_worksOut_6 (by decide) (fun _ => ?_) (fun q => absurd (by decide) q)
        exact J_vret hT dX9_worksOut_44 rfl (⟨rfl, g1, rfl, hg1⟩) (Nat.le_refl _) (Nat.le_refl _)
      | some c =>
        have hc := (ndP_some hq).1
        have hlt := kcn_lt hD1 hq
        rw [wkI_some hq] at he
        refine J_iload_n (i := 1) hT dX9_worksOut_5 rfl rfl ?_
        refine J_if_lt (tgt := 44) hT dX9_worksOut_6 (by decide) (fun q => absurd q (nI_pos (by omega))) (fun _ => ?_)
        refine J_aload_n (i := 0) hT dX9_worksOut_9 rfl rfl ?_
        refine R_getP hT fX9_74 rfl dX9_worksOut_10 (rk hS) (rp_isDirty hS) ?_
        refine J_iload_n (i := 1) hT dX9_worksOut_13 rfl rfl ?_
        refine J_iconst (v := 0) hT dX9_worksOut_14 rfl ?_
        refine R_zast hT dX9_worksOut_15 (rk_isDirty hS) (rl_isDirty hS) (zix_nI (j := c) hc (by decide)) (by decide) ?_
        refine J_aload_n (i := 0) hT dX9_worksOut_16 rfl rfl ?_
        refine J_dup hT dX9_worksOut_17 rfl ?_
        refine R_getI hT fX9_208 rfl dX9_worksOut_18 (rk hS) ?_
        refine J_topil ((show zu σ1 89 c 0 67 33 = σ1 67 33 by simp [zu])) ?_
        refine J_iconst (v := 1) hT dX9_worksOut_21 rfl ?_
        refine J_iadd hT dX9_worksOut_22 ?_
        refine R_putI hT fX9_208 rfl rfl dX9_worksOut_23 (rk hS) ?_
        refine J_aload_n (i := 0) hT dX9_worksOut_26 rfl rfl ?_
        refine J_iload_n (i := 1) hT dX9_worksOut_27 rfl rfl ?_
        refine J_aload_n (i := 0) hT dX9_worksOut_28 rfl rfl ?_
        refine J_iload_n (i := 1) hT dX9_worksOut_29 rfl rfl ?_
        refine J_callV (ci := 9) hY dX9_worksOut_30 mfX9_worthOf miX9_worthOf msX9_worthOf kX9_211 ⟨by decide, rfl⟩ (rk hS) (c_X9_worthOf hZ hS hc (WFc_mv (hW1 c hc) (fun j => by simp [zu]) (fun j => by simp [zu]))) rfl (by decide) rfl rfl (Nat.le_of_ble_eq_true rfl) (Nat.le_refl _) (Nat.le_refl _) (fun r μ1 hq1 => ?_)
        obtain ⟨rfl, g2, rfl, hg2⟩ := hq1
        refine R_callV0 (ci := 9) hY dX9_worksOut_33 mfX9_becomes miX9_becomes msX9_becomes kX9_214 ⟨by decide, rfl⟩ (rk hS) (c_X9_becomes hZ hS hc) rfl (by decide) rfl rfl (Nat.le_of_ble_eq_true rfl) (Nat.le_refl _) (Nat.le_refl _) ?_
        refine J_aload_n (i := 0) hT dX9_worksOut_36 rfl rfl ?_
        refine R_callV1 (ci := 9) hY dX9_worksOut_37 mfX9_nextDirty miX9_nextDirty msX9_nextDirty kX9_205 ⟨by decide, rfl⟩ (rk hS) (c_X9_nextDirty hZ hS) rfl (by decide) rfl rfl (Nat.le_of_ble_eq_true rfl) (Nat.le_refl _) (Nat.le_refl _) ?_
        refine S_istore1 hT dX9_worksOut_40 rfl rfl ?_
        refine J_goto (tgt := 5) hT dX9_worksOut_41 (by decide) ?_
        exact ih (wkS σ1 c) g2 (by omega) (hD1.mv (wkS_sm σ1 c)) (fun j hj => WFc_mv (hW1 j hj) (fun i => wkS_sm σ1 c _ i (by decide) (by decide) (by decide)) (fun i => wkS_sm σ1 c _ i (by decide) (by decide) (by decide))) (zge_trans hg1 hg2) he
  refine J_aload_n (i := 0) hT dX9_worksOut_0 rfl rfl ?_
  refine R_callV1 (ci := 9) hY dX9_worksOut_1 mfX9_nextDirty miX9_nextDirty msX9_nextDirty kX9_205 ⟨by decide, rfl⟩ (rk hS) (c_X9_nextDirty hZ hS) rfl (by decide) rfl rfl (Nat.le_of_ble_eq_true rfl) (Nat.le_refl _) (Nat.le_refl _) ?_
  refine S_istore1 hT dX9_worksOut_4 rfl rfl ?_
  exact loop 12 σ g (kcn_le σ) hD hW (zge_refl g) rfl
