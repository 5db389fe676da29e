
theorem RI_begin (S : Nat → Nat → Int32) : RI (beginF S) := by
  refine ⟨fun c hc => ?_, fun k j hk hj hb => ?_, fun s hs => ⟨Or.inl ?_, Or.inl ?_⟩, fun k hk h3 => ?_⟩
  · have e1 : beginF S 75 c = 1 := by simp [beginF, beD, clearF, clS, clP, beS, beP, zu, hc]
    have e2 : beginF S 74 (30 * c + 0) = 0 := by simp [beginF, beD, clearF, clS, clP, beS, beP, zu, hc]
    have e3 : cdn (beginF S) c = 1 := by unfold cdn; rw [e1]; rfl
    have e4 : cdw (beginF S) c 0 = 0 := by unfold cdw; rw [e2]; rfl
    unfold WFc
    rw [e3]
    refine ⟨⟨by decide, ?_, fun k hk => ?_⟩, e1, fun k hk => ?_⟩
    · show 0 + 1 - ar (cdw (beginF S) c 0) = 1
      rw [e4]; rfl
    · have : k = 0 := by omega
      subst this
      rw [e4]
      exact ⟨Or.inl (by decide), Nat.zero_le _⟩
    · have : k = 0 := by omega
      subst this
      rw [e2, e4]; rfl
  · have e : beginF S 76 k = 0 := by simp [beginF, beD, clearF, clS, clP, beS, beP, zu, hk]
    rw [e, b_0] at hb
    cases hb
  · simp [beginF, beD, clearF, clS, clP, beS, beP, zu, hs]
  · simp [beginF, beD, clearF, clS, clP, beS, beP, zu, hs]
  · simp [beginF, beD, clearF, clS, clP, beS, beP, zu, hk] at h3
/-- a new object's state -/
theorem RV_begin {S : Nat → Nat → Int32} (h : S 67 42 = 0) : RV 0 (beginF S) ∧ RT 0 (beginF S) := by
  have e : beginF S 67 42 = nI 0 := (zkf_m (beginF_k S) 42 (by decide)).trans h
  have q : zq 0 (beginF S) (beginF (beginF S)) := beginF_q (beginF_f S) ⟨fun b hb k hk => absurd hk (by omega), fun k hk => absurd hk (by omega)⟩
  refine ⟨⟨by decide, e, fun k hk => absurd hk (by omega), fun k hk => ?_, fun k hk => absurd hk (by omega), zq_symm q⟩, fun k hk => ⟨0, by decide, ?_⟩⟩
  · have : k = 0 := by omega
    subst this
    exact RI_begin _
  · have : k = 0 := by omega
    subst this
    exact beginF_now _

