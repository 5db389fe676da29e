
def lastB : List (Bool × Nat × Nat) → Prop
  | [] => False
  | [f] => f.2 = (40, 1)
  | _ :: g :: s => lastB (g :: s)
def GV (op : List Nat) (fr : List (Bool × Nat × Nat)) : Prop := g11 op + 1 = fr.length ∧ lastB fr
theorem lastB_c {f g : Bool × Nat × Nat} {s : List (Bool × Nat × Nat)} (h : lastB (f :: s)) (hs : s ≠ [] ∨ g.2 = f.2) : lastB (g :: s) := by
  cases s with
  | nil =>
    rcases hs with q | q
    · exact absurd rfl q
    · exact q.trans h
  | cons a s => exact h
theorem lastB_t {f : Bool × Nat × Nat} {s : List (Bool × Nat × Nat)} (h : lastB (f :: s)) (hs : s ≠ []) : lastB s := by
  cases s with
  | nil => exact absurd rfl hs
  | cons a s => exact h
theorem ndF_fig {σ : Nat → Nat → Int32} {L : Nat} (f : Nat) : ∀ p k, k < ndF σ L p f → figB (σ 68 (p + k)) = true := by
  induction f with
  | zero => exact fun p k h => absurd h (Nat.not_lt_zero k)
  | succ f ih =>
    intro p k h
    rw [ndF_s] at h
    split at h
    · rename_i q
      cases k with
      | zero => exact q.2
      | succ k =>
        have := ih (p + 1) k (by omega)
        rw [show p + (k + 1) = p + 1 + k by omega]
        exact this
    · omega
theorem nvF_bd {σ : Nat → Nat → Int32} {p : Nat} (d : Nat) (h : ∀ k, k < d → figB (σ 68 (p + k)) = true) : nvF σ p d < 10 ^ d := by
  induction d with
  | zero => exact Nat.one_pos
  | succ d ih =>
    have h1 := ih (fun k hk => h k (by omega))
    obtain ⟨t1, t2, -⟩ := figB_tx (h d (by omega))
    unfold txN at t1 t2
    simp only [nvF]
    rw [Nat.pow_succ]
    omega
theorem num_tok (σ : Nat → Nat → Int32) (L p : Nat) : tokR (nvF σ p (ndF σ L p 4)) ∧ nvF σ p (ndF σ L p 4) < 30000 := by
  have h1 := nvF_bd (ndF σ L p 4) (fun k hk => ndF_fig 4 p k hk)
  have h2 := ndF_le σ L 4 p
  have h3 : 10 ^ ndF σ L p 4 ≤ 10 ^ 4 := Nat.pow_le_pow_right (by decide) h2
  have : nvF σ p (ndF σ L p 4) < 10000 := Nat.lt_of_lt_of_le h1 h3
  exact ⟨Or.inl this, by omega⟩
theorem name_tok {σ : Nat → Nat → Int32} {L p : Nat} (hb : nmBad σ L p = false) : tokR (nmBase (σ 68 p) + nmV σ L p) ∧ nmBase (σ 68 p) + nmV σ L p < 30000 := by
  have hb2 : ¬ p + 1 = L ∧ figB (σ 68 (p + 1)) = true ∧ (σ 68 p = 99 ∨ txN σ (p + 1) < 53) := by
    simp only [nmBad, Bool.or_eq_false_iff, Bool.and_eq_false_iff, decide_eq_false_iff_not, Bool.not_eq_false', ne_eq, Decidable.not_not, Nat.not_le] at hb
    exact hb
  obtain ⟨hq, hf, h9⟩ := hb2
  obtain ⟨f1, f2, -⟩ := figB_tx hf
  by_cases h99 : σ 68 p = 99
  · have e1 : nmBase (σ 68 p) = 20000 := if_pos h99
    have e2 : nmV σ L p < 12 := by
      unfold nmV
      split
      · rename_i q
        simp only [nmTwo, Bool.and_eq_true, Bool.or_eq_true, decide_eq_true_eq] at q
        have : txN σ (p + 2) ≤ 49 := by
          unfold txN
          rcases q.2.2.2 with z | z <;> (rw [z]; decide)
        omega
      · omega
    rw [e1]
    exact ⟨Or.inr (Or.inl (by omega)), by omega⟩
  · have hlt := h9.resolve_left h99
    have e2 : nmV σ L p < 5 := by
      unfold nmV
      rw [if_neg (by simp [nmTwo, h99])]
      omega
    by_cases h114 : σ 68 p = 114
    · have e1 : nmBase (σ 68 p) = 21000 := (if_neg h99).trans (if_pos h114)
      rw [e1]
      exact ⟨Or.inr (Or.inr (Or.inl (by omega))), by omega⟩
    · have e1 : nmBase (σ 68 p) = 22000 := (if_neg h99).trans (if_neg h114)
      rw [e1]
      exact ⟨Or.inr (Or.inr (Or.inr (Or.inl (by omega)))), by omega⟩
theorem clsF_nil (op : List Nat) : ∀ ks : List Nat, g11 op = 0 → (clsF 0 ks op).2 = [] := by
  induction op with
  | nil => exact fun ks _ => rfl
  | cons d s ih =>
    intro ks h
    by_cases e : d = 11
    · subst e; simp [g11] at h
    · rw [clsF_s ⟨e, Nat.zero_le _⟩]
      exact ih _ (by simpa [g11, e] using h)
theorem stF_tv {σ : Nat → Nat → Int32} {L p : Nat} {w w' : Bool} {p' : Nat} {ks op ks' op' : List Nat} {fr fr' : List (Bool × Nat × Nat)} (h : TV w ks op fr) (hg : GV op fr) (hs : stF σ L w p ks op fr = .inr (w', p', ks', op', fr')) : TV w' ks' op' fr' ∧ GV op' fr' := by
  obtain ⟨g1, g2⟩ := hg
  cases w with
  | true =>
    unfold stF at hs
    split at hs
    · injection hs with hs; cases hs
      exact ⟨TV_tok h (num_tok σ L p), g1, g2⟩
    split at hs
    · split at hs
      · cases hs
      · rename_i hb
        injection hs with hs; cases hs
        exact ⟨TV_tok h (name_tok (by simpa using hb)), g1, g2⟩
    split at hs
    · injection hs with hs; cases hs
      exact ⟨TV_neg h, by simpa [g11] using g1, g2⟩
    split at hs
    · rename_i hx
      by_cases hq : (if σ 68 p = 40 then p else p + 1) = L ∨ σ 68 (if σ 68 p = 40 then p else p + 1) ≠ 40
      · rw [if_pos hq] at hs; cases hs
      · rw [if_neg hq] at hs
        injection hs with hs; cases hs
        have e11 : g11 (11 :: op) = g11 op + 1 := by simp [g11]
        refine ⟨?_, by rw [e11]; simp only [List.length_cons]; omega, ?_⟩
        · have key : ∀ o, txN σ p = o → (o = 40 ∨ o = 105 ∨ o = 109 ∨ o = 110) → (if σ 68 p = 40 then 1 else if σ 68 p = 105 then 3 else 2) = tot o → TV true ks (11 :: op) ((false, txN σ p, if σ 68 p = 40 then 1 else if σ 68 p = 105 then 3 else 2) :: fr) := fun o e1 e2 e3 => by
            rw [e3, e1]; exact TV_open h e2
          have tx_ : ∀ n, n < 128 → σ 68 p = nI n → txN σ p = n := fun n hn e => by unfold txN; rw [e]; exact nI_clamp (by omega)
          rcases hx.2 with q | q
          · exact key 40 (tx_ 40 (by decide) q) (Or.inl rfl) (by rw [if_pos q]; rfl)
          · simp only [funB, Bool.or_eq_true, decide_eq_true_eq] at q
            rcases q with (q | q) | q
            · exact key 109 (tx_ 109 (by decide) q) (by simp) (by rw [q]; rfl)
            · exact key 110 (tx_ 110 (by decide) q) (by simp) (by rw [q]; rfl)
            · exact key 105 (tx_ 105 (by decide) q) (by simp) (by rw [q]; rfl)
        · cases fr with
          | nil => exact absurd g2 (fun q => q)
          | cons a s => exact g2
    · split at hs
      · cases hs
      · rename_i q; exact absurd rfl q
  | false =>
    cases fr with
    | nil => exact absurd g2 (fun q => q)
    | cons f fs =>
      rw [stF_false] at hs
      split at hs
      · rename_i hdd
        obtain ⟨d, d2, d7, ed⟩ := deedN_nI hdd
        have ed2 : (deedN (σ 68 p)).toNatClampNeg = d := by rw [ed]; exact nI_clamp (by omega)
        split at hs
        · cases hs
        · rw [ed2] at hs
          injection hs with hs; cases hs
          have n11 : ¬ d = 11 := by omega
          refine ⟨TV_deed _ h ⟨d2, d7⟩ _, ?_, lastB_c g2 (Or.inr rfl)⟩
          have := (clsF_ok (rkN d) op ks).2.1
          simp only [List.length_cons] at g1 ⊢
          have e : g11 (d :: (clsF (rkN d) ks op).2) = g11 (clsF (rkN d) ks op).2 := by simp [g11, n11]
          omega
      split at hs
      · rename_i q
        injection hs with hs; cases hs
        refine ⟨TV_comma h q.2.2 _, ?_, lastB_c g2 (Or.inl q.2.1)⟩
        have := (clsF_ok 0 op ks).2.1
        simp only [List.length_cons] at g1 ⊢
        omega
      split at hs
      · rename_i q
        have hl : 0 < fs.length := List.length_pos_iff.mpr q.2.1
        simp only [List.length_cons] at g1
        obtain ⟨os, eos⟩ := clsF_0 op ks (by omega)
        have := (clsF_ok 0 op ks).2.1
        have e11 : g11 (11 :: os) = g11 os + 1 := by simp [g11]
        injection hs with hs; cases hs
        rw [eos, List.tail_cons]
        rw [eos] at this
        exact ⟨TV_shut h q.2.2 eos, by omega, lastB_t g2 q.2.1⟩
      · cases hs

