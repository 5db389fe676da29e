
theorem stF_mv {σ σ' : Nat → Nat → Int32} (h : ∀ j, σ' 68 j = σ 68 j) (L : Nat) (w : Bool) (p : Nat) (ks op : List Nat) (fr : List (Bool × Nat × Nat)) : stF σ' L w p ks op fr = stF σ L w p ks op fr := by
  unfold stF
  simp only [h, ndF_mv h, nvF_mv h, nmBad_mv h, nmP_mv h, nmV_mv h, txN_mv h]
theorem rnF_mv {σ σ' : Nat → Nat → Int32} (h : ∀ j, σ' 68 j = σ 68 j) (L f : Nat) : ∀ (w : Bool) (p : Nat) (ks op : List Nat) (fr : List (Bool × Nat × Nat)), rnF σ' L f w p ks op fr = rnF σ L f w p ks op fr := by
  induction f with
  | zero => exact fun _ _ _ _ _ => rfl
  | succ f ih =>
    intro w p ks op fr
    rw [rnF, rnF, stF_mv h]
    split
    · split
      · rfl
      · exact ih _ _ _ _ _
    · rfl
theorem rdF_mv {σ σ' : Nat → Nat → Int32} (h : ∀ j, σ' 68 j = σ 68 j) (L : Nat) : rdF σ' L = rdF σ L := rnF_mv h L 31 _ _ _ _ _
theorem zq_f {n : Nat} {σ σ' : Nat → Nat → Int32} (h : zpf σ σ') : zq n σ σ' := by
  have e : ∀ b, b ∉ [67, 69, 70, 71, 72, 73] → ∀ j, σ' b j = σ b j := fun b hb j => by
    simp only [List.mem_cons, List.not_mem_nil, or_false, not_or] at hb
    exact h b j hb.2.1 hb.2.2.1 hb.2.2.2.1 hb.2.2.2.2.1 hb.2.2.2.2.2 (fun q => hb.1 q.1)
  have nz : ∀ b, b ∈ zqL ∨ b ∈ zqJ → b ∉ [67, 69, 70, 71, 72, 73] := by
    intro b hb hm
    simp only [List.mem_cons, List.not_mem_nil, or_false] at hm
    rcases hm with rfl | rfl | rfl | rfl | rfl | rfl <;> exact absurd hb (by decide)
  exact zq_mk (zq_refl n σ) (fun b hb j => e b (nz b (Or.inl hb)) j) (h _ _ (by decide) (by decide) (by decide) (by decide) (by decide) (by decide)) (h _ _ (by decide) (by decide) (by decide) (by decide) (by decide) (by decide)) (fun _ _ _ => rfl) (fun b hb j => e b (nz b (Or.inr hb)) j)
theorem RV.text {n : Nat} {σ σ' : Nat → Nat → Int32} (h : RV n σ) (hz : zpf σ σ') : RV n σ' := h.mv (zq_f hz) (hz _ _ (by decide) (by decide) (by decide) (by decide) (by decide) (by decide))

set_option maxRecDepth 100000 in
set_option maxHeartbeats 4000000 in
theorem c_X9_fault {l : Launch} {Z : zZ} (hZ : zSt l Z) {μ : zMem} {σ : Nat → Nat → Int32} {π : Nat → Nat → Option Nat} {g : Nat → Nat → Int64} (hS : zRef μ π) {L : Nat} (hL : σ 67 1 = nI L) (hL30 : L ≤ 30) : zCt l Z mX9_fault 3 0 0 [.ref 67] (zA4 μ σ π g) (fun r μ' => r = some (.int (fltI (rdF σ L) L)) ∧ ∃ σ', μ' = zA4 μ σ' π g ∧ zpf (zu σ 67 45 0) σ') := by
  refine zCt_of hZ mpX9_fault (Nat.le_of_ble_eq_true rfl) (L := [some (.ref 67)]) rfl (fun τ hY => ?_)
  have hT := hY.1
  refine J_aload_n (i := 0) hT dX9_fault_0 rfl rfl ?_
  refine J_iconst (v := 0) hT dX9_fault_1 rfl ?_
  refine R_putI hT fX9_129 rfl rfl dX9_fault_2 (rk hS) ?_
  refine J_aload_n (i := 0) hT dX9_fault_5 rfl rfl ?_
  refine J_callV (ci := 9) hY dX9_fault_6 mfX9_faultOf miX9_faultOf msX9_faultOf kX9_179 ⟨by decide, rfl⟩ (rk hS) (c_X9_faultOf hZ hS (σ := zu σ 67 45 0) (L := L) (by simpa [zu] using hL) hL30 (R := rdF σ L) (rdF_mv (fun j => (zu_ne _ _ _ _ (by decide) _)) L).symm) rfl (by decide) rfl rfl (Nat.le_of_ble_eq_true rfl) (Nat.le_refl _) (Nat.le_refl _) (fun r1 μ1 hq1 => ?_)
  obtain ⟨rfl, S2, rfl, hz2, -⟩ := hq1
  exact J_iret hT dX9_fault_9 rfl rfl (⟨rfl, S2, rfl, hz2⟩) (Nat.le_refl _) (Nat.le_refl _)
