/-! ===== the reading of a text's beginning ===== -/
section ZPRE
variable {S S' : zS2} {L L' : Nat}
theorem nd_cg (ha : ∀ j, j < L' → S' 68 j = S 68 j) (hL : L' ≤ L) : ∀ f p, p ≤ L' → p + ndF S L p f ≤ L' → ndF S' L' p f = ndF S L p f := by
  intro f
  induction f with
  | zero => intro p _ _; rfl
  | succ f ih =>
    intro p hp h
    rw [ndF_s] at h ⊢
    rw [ndF_s]
    by_cases q : p < L'
    · rw [ha p q]
      by_cases z : figB (S 68 p) = true
      · have zL : p < L ∧ figB (S 68 p) = true := ⟨by omega, z⟩
        have zM : p < L' ∧ figB (S 68 p) = true := ⟨q, z⟩
        rw [if_pos zL] at h ⊢
        rw [if_pos zM, ih (p + 1) (by omega) (by omega)]
      · rw [if_neg (fun y => z y.2), if_neg (fun y => z y.2)]
    · rw [if_neg (fun y => q y.1)]
      by_cases z : p < L ∧ figB (S 68 p) = true
      · rw [if_pos z] at h; omega
      · rw [if_neg z]
theorem nv_cg (ha : ∀ j, j < L' → S' 68 j = S 68 j) (p : Nat) : ∀ d, p + d ≤ L' → nvF S' p d = nvF S p d := by
  intro d
  induction d with
  | zero => exact fun _ => rfl
  | succ d ih => intro h; rw [nvF, nvF, ih (by omega), ha (p + d) (by omega)]
theorem nmBad_cg (ha : ∀ j, j < L' → S' 68 j = S 68 j) (hL : L' ≤ L) {p : Nat} (h : p + 1 < L') : nmBad S' L' p = nmBad S L p := by
  unfold nmBad txN
  rw [ha p (by omega), ha (p + 1) h, decide_eq_false (show ¬ p + 1 = L' by omega), decide_eq_false (show ¬ p + 1 = L by omega)]
theorem nmTwo_cg (ha : ∀ j, j < L' → S' 68 j = S 68 j) (hL : L' ≤ L) {p : Nat} (h : p + 1 < L') (hp : nmP S L p ≤ L') : nmTwo S' L' p = nmTwo S L p := by
  unfold nmP at hp
  by_cases q : nmTwo S L p = true
  · rw [if_pos q] at hp
    rw [q]
    unfold nmTwo txN at q ⊢
    rw [ha p (by omega), ha (p + 1) h, ha (p + 2) (by omega)]
    simp only [Bool.and_eq_true, decide_eq_true_eq] at q ⊢
    exact ⟨q.1, q.2.1, by omega, q.2.2.2⟩
  · rw [Bool.eq_false_iff.mpr q, Bool.eq_false_iff]
    intro z
    apply q
    unfold nmTwo txN at z ⊢
    simp only [Bool.and_eq_true, decide_eq_true_eq] at z ⊢
    obtain ⟨z1, z2, z3, z4⟩ := z
    rw [ha p (by omega)] at z1
    rw [ha (p + 1) h] at z2
    rw [ha (p + 2) z3] at z4
    exact ⟨z1, z2, by omega, z4⟩
theorem stF_good (ha : ∀ j, j < L' → S' 68 j = S 68 j) (hL : L' ≤ L) {w : Bool} {p : Nat} {ks op : List Nat} {fr : List (Bool × Nat × Nat)} {s : zPS} (hp : p < L') (e : stF S L w p ks op fr = .inr s) (hs : s.2.1 ≤ L') : stF S' L' w p ks op fr = .inr s := by
  have hl := ha p hp
  unfold stF at e ⊢
  rw [hl]
  by_cases c1 : w = true ∧ figB (S 68 p) = true
  · rw [if_pos c1] at e ⊢
    injection e with e
    subst e
    dsimp only at hs
    have h1 := nd_cg ha hL 4 p (by omega) hs
    rw [h1, nv_cg ha p _ hs]
  rw [if_neg c1] at e ⊢
  by_cases c2 : w = true ∧ namB (S 68 p) = true
  · rw [if_pos c2] at e ⊢
    by_cases c3 : nmBad S L p = true
    · rw [if_pos c3] at e; cases e
    · rw [if_neg c3] at e
      injection e with e
      subst e
      dsimp only at hs
      have h2 : p + 1 < L' := by unfold nmP at hs; split at hs <;> omega
      have h3 := nmTwo_cg ha hL h2 hs
      have h4 := nmBad_cg ha hL h2
      rw [h4, if_neg c3]
      have h5 : nmP S' L' p = nmP S L p := by unfold nmP; rw [h3]
      have h6 : nmV S' L' p = nmV S L p := by
        unfold nmV txN
        rw [h3]
        split
        · rename_i z
          unfold nmP at hs
          rw [if_pos z] at hs
          rw [ha (p + 2) (by omega)]
        · rw [ha (p + 1) h2]
      rw [h5, h6]
  rw [if_neg c2] at e ⊢
  by_cases c4 : w = true ∧ S 68 p = 45
  · rw [if_pos c4] at e ⊢; exact e
  rw [if_neg c4] at e ⊢
  by_cases c5 : w = true ∧ (S 68 p = 40 ∨ funB (S 68 p) = true)
  · rw [if_pos c5] at e ⊢
    by_cases c6 : S 68 p = 40
    · rw [if_pos c6] at e ⊢
      rw [if_neg (fun z => z.elim (fun y => by omega) (fun y => y c6))] at e
      rw [if_neg (fun z => z.elim (fun y => by omega) (fun y => y (hl.trans c6)))]
      rw [show txN S' p = txN S p by unfold txN; rw [hl]]
      exact e
    · rw [if_neg c6] at e ⊢
      by_cases c7 : p + 1 = L ∨ S 68 (p + 1) ≠ 40
      · rw [if_pos c7] at e; cases e
      · rw [if_neg c7] at e
        have hb : p + 1 + 1 ≤ L' := by
          injection e with e
          subst e
          exact hs
        rw [if_neg (fun z => z.elim (fun y => by omega) (fun y => c7 (Or.inr (by rw [← ha (p + 1) (by omega)]; exact y)))), show txN S' p = txN S p by unfold txN; rw [hl]]
        exact e
  rw [if_neg c5] at e ⊢
  exact e
theorem stF_bad (ha : ∀ j, j < L' → S' 68 j = S 68 j) (hL : L' ≤ L) {w : Bool} {p q : Nat} {ks op : List Nat} {fr : List (Bool × Nat × Nat)} (hp : p < L') (e : stF S L w p ks op fr = .inl q) (hq : q ≤ L') : stF S' L' w p ks op fr = .inl q := by
  have hl := ha p hp
  unfold stF at e ⊢
  rw [hl]
  by_cases c1 : w = true ∧ figB (S 68 p) = true
  · rw [if_pos c1] at e; cases e
  rw [if_neg c1] at e ⊢
  by_cases c2 : w = true ∧ namB (S 68 p) = true
  · rw [if_pos c2] at e ⊢
    by_cases c3 : nmBad S L p = true
    · rw [if_pos c3] at e
      injection e with e
      by_cases h2 : p + 1 < L'
      · rw [nmBad_cg ha hL h2, if_pos c3, e]
      · have h3 : nmBad S' L' p = true := by
          unfold nmBad
          rw [decide_eq_true (show p + 1 = L' by omega), Bool.true_or]
        rw [if_pos h3, e]
    · rw [if_neg c3] at e; cases e
  rw [if_neg c2] at e ⊢
  by_cases c4 : w = true ∧ S 68 p = 45
  · rw [if_pos c4] at e; cases e
  rw [if_neg c4] at e ⊢
  by_cases c5 : w = true ∧ (S 68 p = 40 ∨ funB (S 68 p) = true)
  · rw [if_pos c5] at e ⊢
    by_cases c6 : S 68 p = 40
    · rw [if_pos c6] at e
      rw [if_neg (fun z => z.elim (fun y => by omega) (fun y => y c6))] at e
      cases e
    · rw [if_neg c6] at e ⊢
      by_cases c7 : p + 1 = L ∨ S 68 (p + 1) ≠ 40
      · rw [if_pos c7] at e
        injection e with e
        by_cases h2 : p + 1 < L'
        · rw [if_pos (Or.inr (by rw [ha (p + 1) h2]; exact c7.resolve_left (by omega))), e]
        · rw [if_pos (Or.inl (by omega)), e]
      · rw [if_neg c7] at e; cases e
  rw [if_neg c5] at e ⊢
  exact e
theorem stF_at {w : Bool} {p q : Nat} {ks op : List Nat} {fr : List (Bool × Nat × Nat)} (e : stF S L w p ks op fr = .inl q) : p ≤ q := by
  unfold stF at e
  repeat' split at e
  all_goals first
    | (cases e; done)
    | (injection e with e; omega)
    | (injection e with e; split at e <;> omega)
theorem stF_gt {w : Bool} {p : Nat} {ks op : List Nat} {fr : List (Bool × Nat × Nat)} {s : zPS} (hp : p < L) (e : stF S L w p ks op fr = .inr s) : p < s.2.1 := by
  unfold stF at e
  by_cases c1 : w = true ∧ figB (S 68 p) = true
  · rw [if_pos c1] at e
    injection e with e
    subst e
    have : 0 < ndF S L p 4 := ndF_pos (f := 3) hp c1.2
    dsimp only
    omega
  rw [if_neg c1] at e
  repeat' split at e
  all_goals first
    | (cases e; done)
    | (injection e with e; subst e; dsimp only; first | omega | (unfold nmP; split <;> omega) | (split <;> omega))
theorem rnF_at (f : Nat) : ∀ {w : Bool} {p q : Nat} {ks op : List Nat} {fr : List (Bool × Nat × Nat)}, rnF S L f w p ks op fr = .inl q → p ≤ q := by
  induction f with
  | zero => intro w p q ks op fr e; rw [rnF] at e; cases e
  | succ f ih =>
    intro w p q ks op fr e
    by_cases c : p < L
    · cases e2 : stF S L w p ks op fr with
      | inl r => rw [rnF_l c e2] at e; injection e with e; subst e; exact stF_at e2
      | inr t =>
        obtain ⟨w', p', ks', op', fr'⟩ := t
        rw [rnF_r c e2] at e
        have h1 := ih e
        have h2 : p < p' := stF_gt c e2
        omega
    · rw [rnF_e c] at e; cases e
theorem rnF_pre (ha : ∀ j, j < L' → S' 68 j = S 68 j) (hL : L' ≤ L) (f : Nat) : ∀ {w : Bool} {p q : Nat} {ks op : List Nat} {fr : List (Bool × Nat × Nat)}, rnF S L f w p ks op fr = .inl q → q ≤ L' → rnF S' L' f w p ks op fr = .inl q ∨ (L' = q ∧ ∃ s, rnF S' L' f w p ks op fr = .inr s) := by
  induction f with
  | zero => intro w p q ks op fr e; rw [rnF] at e; cases e
  | succ f ih =>
    intro w p q ks op fr e hq
    by_cases c : p < L
    · cases e2 : stF S L w p ks op fr with
      | inl r =>
        rw [rnF_l c e2] at e
        injection e with e
        subst e
        have h1 := stF_at e2
        by_cases c2 : p < L'
        · exact Or.inl (rnF_l c2 (stF_bad ha hL c2 e2 hq))
        · exact Or.inr ⟨by omega, _, rnF_e c2⟩
      | inr t =>
        obtain ⟨w', p', ks', op', fr'⟩ := t
        rw [rnF_r c e2] at e
        have h1 := rnF_at f e
        have h2 : p < p' := stF_gt c e2
        rw [rnF_r (show p < L' by omega) (stF_good ha hL (by omega) e2 (show p' ≤ L' by omega))]
        exact ih e hq
    · rw [rnF_e c] at e; cases e
theorem stF_leL {w : Bool} {p q : Nat} {ks op : List Nat} {fr : List (Bool × Nat × Nat)} (hp : p < L) (e : stF S L w p ks op fr = .inl q) : q ≤ L := by
  unfold stF at e
  repeat' split at e
  all_goals first
    | (cases e; done)
    | (injection e with e; omega)
    | (injection e with e; split at e <;> omega)
theorem rnF_leL (f : Nat) : ∀ {w : Bool} {p q : Nat} {ks op : List Nat} {fr : List (Bool × Nat × Nat)}, rnF S L f w p ks op fr = .inl q → q ≤ L := by
  induction f with
  | zero => intro w p q ks op fr e; rw [rnF] at e; cases e
  | succ f ih =>
    intro w p q ks op fr e
    by_cases c : p < L
    · cases e2 : stF S L w p ks op fr with
      | inl r => rw [rnF_l c e2] at e; injection e with e; subst e; exact stF_leL c e2
      | inr t =>
        obtain ⟨w', p', ks', op', fr'⟩ := t
        rw [rnF_r c e2] at e
        exact ih e
    · rw [rnF_e c] at e; cases e
/-- the same letters up to the end: the same reading -/
theorem rnF_cg (ha : ∀ j, j < L → S' 68 j = S 68 j) (f : Nat) : ∀ {w : Bool} {p : Nat} {ks op : List Nat} {fr : List (Bool × Nat × Nat)}, IV p ks op fr → rnF S' L f w p ks op fr = rnF S L f w p ks op fr := by
  induction f with
  | zero => intro w p ks op fr _; rfl
  | succ f ih =>
    intro w p ks op fr hI
    by_cases c : p < L
    · cases e2 : stF S L w p ks op fr with
      | inl r =>
        rw [rnF_l c e2, rnF_l c (stF_bad ha (Nat.le_refl L) c e2 (stF_leL c e2))]
      | inr t =>
        obtain ⟨w', p', ks', op', fr'⟩ := t
        obtain ⟨h1, h2⟩ := stF_iv c hI e2
        rw [rnF_r c e2, rnF_r c (stF_good ha (Nat.le_refl L) c e2 h2)]
        exact ih h1
    · rw [rnF_e c, rnF_e c]
theorem IV_0 : IV 0 [] [] [(false, 40, 1)] := ⟨by simp [ng, fnc], by simp [g11], by simp, fun d hd => absurd hd (by simp), fun f hf => by rw [List.mem_singleton.mp hf]; decide⟩
theorem rdF_cg (ha : ∀ j, j < L → S' 68 j = S 68 j) : rdF S' L = rdF S L := rnF_cg ha 31 IV_0
theorem flt_pre {q : Nat} (ha : ∀ j, j < L' → S' 68 j = S 68 j) (hL : L' ≤ L) (e : rdF S L = .inl q) (hq : q ≤ L') : fltI (rdF S' L') L' = nI q ∨ (L' = q ∧ fltI (rdF S' L') L' = -1) := by
  rcases rnF_pre ha hL 31 e hq with h | ⟨h, s, h2⟩
  · left
    unfold rdF
    rw [h]
    rfl
  · unfold rdF
    rw [h2]
    unfold fltI
    dsimp only
    split
    · left; rw [h]
    · exact Or.inr ⟨h, rfl⟩
end ZPRE
/-- what a text's fault says of its beginnings -/
theorem flt_of {S : zS2} {L : Nat} (hL : L ≤ 30) : fltI (rdF S L) L = -1 ∨ ∃ q, q ≤ L ∧ fltI (rdF S L) L = nI q ∧ (∀ S' : zS2, (∀ j, j < q → S' 68 j = S 68 j) → fltI (rdF S' q) q = -1 ∨ fltI (rdF S' q) q = nI q) ∧ (q < L → ∀ S' : zS2, (∀ j, j < q + 1 → S' 68 j = S 68 j) → fltI (rdF S' (q + 1)) (q + 1) = nI q) := by
  cases e : rdF S L with
  | inr s =>
    unfold fltI
    dsimp only
    split
    · refine Or.inr ⟨L, Nat.le_refl L, rfl, fun S' ha => ?_, fun h => absurd h (Nat.lt_irrefl L)⟩
      rw [rdF_cg ha, e]
      dsimp only
      rename_i z
      rw [if_pos z]
      exact Or.inr rfl
    · exact Or.inl rfl
  | inl q =>
    have hq : q ≤ L := rnF_leL 31 e
    refine Or.inr ⟨q, hq, rfl, fun S' ha => ?_, fun h S' ha => ?_⟩
    · rcases flt_pre ha hq e (Nat.le_refl q) with h | ⟨-, h⟩
      · exact Or.inr h
      · exact Or.inl h
    · rcases flt_pre ha (by omega) e (by omega) with h | ⟨h, -⟩
      · exact h
      · omega
