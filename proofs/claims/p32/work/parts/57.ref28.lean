
theorem stF_mv {σ σ' : Nat → Nat → Int32} (h : ∀ j, σ' 68 j = σ 68 j) (L : Nat) (w : Bool) (p : Nat) (ks op : List Nat) (fr : List (Bool × Nat × Nat)) : stF σ' L w p ks op fr = stF σ L w p ks op fr := by
  unfold stF
  simp only [h, ndF_mv h, nvF_mv h, nmBad_mv h, nmP_mv h, nmV_mv h, txN_mv h]
theorem rnF_mv {σ σ' : Nat → Nat → Int32} (h : ∀ j, σ' 68 j = σ 68 j) (L f : Nat) : ∀ (w : Bool) (p : Nat) (ks op : List Nat) (fr : List (Bool × Nat × Nat)), rnF σ' L f w p ks op fr = rnF σ L f w p ks op fr := by
  induction f with
  | zero => exact fun _ _ _ _ _ => rfl
  | succ f ih =>
    intro w p ks op fr
    rw [rnF, rnF, stF_mv h]
    split
    · split
      · rfl
      · exact ih _ _ _ _ _
    · rfl
theorem rdF_mv {σ σ' : Nat → Nat → Int32} (h : ∀ j, σ' 68 j = σ 68 j) (L : Nat) : rdF σ' L = rdF σ L := rnF_mv h L 31 _ _ _ _ _
theorem zq_f {n : Nat} {σ σ' : Nat → Nat → Int32} (h : zpf σ σ') : zq n σ σ' := by
  have e : ∀ b, b ∉ [67, 69, 70, 71, 72, 73] → ∀ j, σ' b j = σ b j := fun b hb j => by
    simp only [List.mem_cons, List.not_mem_nil, or_false, not_or] at hb
    exact h b j hb.2.1 hb.2.2.1 hb.2.2.2.1 hb.2.2.2.2.1 hb.2.2.2.2.2 (fun q => hb.1 q.1)
  have nz : ∀ b, b ∈ zqL ∨ b ∈ zqJ → b ∉ [67, 69, 70, 71, 72, 73] := by
    intro b hb hm
    simp only [List.mem_cons, List.not_mem_nil, or_false] at hm
    rcases hm with rfl | rfl | rfl | rfl | rfl | rfl <;> exact absurd hb (by decide)
  exact zq_mk (zq_refl n σ) (fun b hb j => e b (nz b (Or.inl hb)) j) (h _ _ (by decide) (by decide) (by decide) (by decide) (by decide) (by decide)) (h _ _ (by decide) (by decide) (by decide) (by decide) (by decide) (by decide)) (fun _ _ _ => rfl) (fun b hb j => e b (nz b (Or.inr hb)) j)
theorem RV.text {n : Nat} {σ σ' : Nat → Nat → Int32} (h : RV n σ) (hz : zpf σ σ') : RV n σ' := h.mv (zq_f hz) (hz _ _ (by decide) (by decide) (by decide) (by decide) (by decide) (by decide))

