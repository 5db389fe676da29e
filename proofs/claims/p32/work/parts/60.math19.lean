
theorem rnF_tv {σ : Nat → Nat → Int32} {L : Nat} (f : Nat) : ∀ {w : Bool} {p : Nat} {ks op : List Nat} {fr : List (Bool × Nat × Nat)} {s : zPS}, TV w ks op fr → GV op fr → rnF σ L f w p ks op fr = .inr s → TV s.1 s.2.2.1 s.2.2.2.1 s.2.2.2.2 ∧ GV s.2.2.2.1 s.2.2.2.2 := by
  induction f with
  | zero =>
    intro w p ks op fr s h hg hs
    rw [rnF] at hs
    injection hs with hs
    subst hs
    exact ⟨h, hg⟩
  | succ f ih =>
    intro w p ks op fr s h hg hs
    by_cases hp : p < L
    · cases e : stF σ L w p ks op fr with
      | inl q => rw [rnF_l hp e] at hs; cases hs
      | inr t =>
        obtain ⟨w', p', ks', op', fr'⟩ := t
        obtain ⟨h1, h2⟩ := stF_tv h hg e
        rw [rnF_r hp e] at hs
        exact ih h1 h2 hs
    · rw [rnF_e hp] at hs
      injection hs with hs
      subst hs
      exact ⟨h, hg⟩
/-- a text without a fault: its tokens are well made, nothing is open -/
theorem rdF_ok {σ : Nat → Nat → Int32} {L : Nat} (hL : L ≤ 30) (h : fltI (rdF σ L) L = -1) (hn : ∀ q, rdF σ L = .inl q → q ≤ 30) : okL (rdK (rdF σ L)).1 ∧ dL (rdK (rdF σ L)).1 = 1 ∧ (rdK (rdF σ L)).2 = [] := by
  have nL : ∀ q, q ≤ 30 → nI q ≠ -1 := fun q hq h => by
    have h1 : (0 : Int32) ≤ nI q := nI_le (a := 0) (by omega) (by omega)
    rw [h] at h1
    exact absurd h1 (by decide)
  cases e : rdF σ L with
  | inl q =>
    rw [e] at h
    exact absurd h (nL q (hn q e))
  | inr s =>
    obtain ⟨w, p, ks, op, fr⟩ := s
    rw [e] at h
    have h0 : TV true [] [] [(false, 40, 1)] := by
      refine ⟨trivial, rfl, fun d hd => absurd hd (by simp), fun f hf => ?_⟩
      simp only [List.mem_cons, List.not_mem_nil, or_false] at hf
      subst hf
      exact ⟨Or.inl rfl, by decide, by decide⟩
    obtain ⟨h1, h2, h3⟩ := rnF_tv 31 h0 ⟨rfl, rfl⟩ e
    dsimp only at h1 h2 h3
    have hw : w = false := by
      cases w with
      | false => rfl
      | true => exact absurd ((fltI_1 p ks op fr L).symm.trans h) (nL L hL)
    have hl : fr.length = 1 := by
      apply Classical.byContradiction
      intro q
      exact absurd ((fltI_2 w p ks op fr L q).symm.trans h) (nL L hL)
    subst hw
    have hg : g11 op = 0 := by omega
    have hk : rdK (.inr (false, p, ks, op, fr)) = clsF 0 ks op := rfl
    rw [hk]
    have hnil := clsF_nil op ks hg
    obtain ⟨t1, t2, -, -⟩ := clsF_tv 0 op fr ks h1
    refine ⟨t1, ?_, hnil⟩
    rw [t2, hnil]
    cases fr with
    | nil => exact absurd hl (by decide)
    | cons f fs =>
      have hfs : fs = [] := List.eq_nil_of_length_eq_zero (by simpa using hl)
      subst hfs
      have h4 : f.2 = (40, 1) := h3
      simp only [fa, h4]
      rfl

