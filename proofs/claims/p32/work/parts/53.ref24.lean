
def zFr (σ : Nat → Nat → Int32) : List (Bool × Nat × Nat) → Prop
  | [] => True
  | f :: s => σ 71 s.length = zbi f.1 ∧ (s ≠ [] → σ 72 s.length = nI f.2.1 ∧ σ 73 s.length = nI f.2.2) ∧ zFr σ s
theorem zFr_mv {σ σ' : Nat → Nat → Int32} {s : List (Bool × Nat × Nat)} (h : zFr σ s) (e : ∀ b, b = 71 ∨ b = 72 ∨ b = 73 → ∀ j, j < s.length → σ' b j = σ b j) : zFr σ' s := by
  induction s with
  | nil => trivial
  | cons x s ih =>
    have hl : s.length < (x :: s).length := Nat.lt_succ_self _
    refine ⟨(e _ (Or.inl rfl) _ hl).trans h.1, fun q => ?_, ih h.2.2 (fun b hb j hj => e b hb j (by simp only [List.length_cons]; omega))⟩
    rw [e _ (Or.inr (Or.inl rfl)) _ hl, e _ (Or.inr (Or.inr rfl)) _ hl]
    exact h.2.1 q
/-- what reading the text may change -/
def zpf (σ σ' : Nat → Nat → Int32) : Prop := ∀ b j, b ≠ 69 → b ≠ 70 → b ≠ 71 → b ≠ 72 → b ≠ 73 → ¬ (b = 67 ∧ (j = 3 ∨ j = 5)) → σ' b j = σ b j
theorem zpf_refl (σ : Nat → Nat → Int32) : zpf σ σ := fun _ _ _ _ _ _ _ _ => rfl
theorem zpf_trans {a b c : Nat → Nat → Int32} (h1 : zpf a b) (h2 : zpf b c) : zpf a c := fun x j p q r s t u => (h2 x j p q r s t u).trans (h1 x j p q r s t u)
theorem zpf_c {a b : Nat → Nat → Int32} (h : zpc a b) : zpf a b := fun x j p _ _ _ _ u => h x j p u
theorem zpf_u (σ : Nat → Nat → Int32) (a i : Nat) (v : Int32) (h : a = 69 ∨ a = 70 ∨ a = 71 ∨ a = 72 ∨ a = 73 ∨ (a = 67 ∧ (i = 3 ∨ i = 5))) : zpf σ (zu σ a i v) := by
  intro b j p q r s t u
  simp only [zu]
  split
  · rename_i e
    obtain ⟨rfl, rfl⟩ := e
    rcases h with h | h | h | h | h | h
    · exact absurd h p
    · exact absurd h q
    · exact absurd h r
    · exact absurd h s
    · exact absurd h t
    · exact absurd h u
  · rfl
theorem PM_tok {σ : Nat → Nat → Int32} {ks op : List Nat} (h : PM σ ks op) (hn : ks.length < 30) (x : Nat) : PM (zu (zu σ 69 ks.length (nI x)) 67 3 (nI (ks.length + 1))) (x :: ks) op ∧ zpc σ (zu (zu σ 69 ks.length (nI x)) 67 3 (nI (ks.length + 1))) := by
  obtain ⟨h1, h2, h3, h4, h5, h6, h7⟩ := h
  refine ⟨⟨by simp [zu], by simpa [zu] using h2, ⟨by simp [zu], zOp_mv h3 (fun j hj => ?_)⟩, zOp_mv h4 (fun j hj => by simp [zu]), by simp only [List.length_cons]; omega, h6, h7⟩, ?_⟩
  · have : ¬ j = ks.length := by omega
    simp [zu, this]
  · intro b j hb hc
    have h2 : ¬ (b = 67 ∧ j = 3) := fun q => hc ⟨q.1, Or.inl q.2⟩
    simp only [zu, h2, hb, false_and, if_false]
theorem PM_open {σ : Nat → Nat → Int32} {ks op : List Nat} (h : PM σ ks op) (hn : op.length < 62) {d : Nat} (hd : d < 12) : PM (zu (zu σ 70 op.length (nI d)) 67 5 (nI (op.length + 1))) ks (d :: op) := by
  obtain ⟨h1, h2, h3, h4, h5, h6, h7⟩ := h
  refine ⟨by simpa [zu] using h1, by simp [zu], zOp_mv h3 (fun j hj => by simp [zu]), ⟨by simp [zu], zOp_mv h4 (fun j hj => ?_)⟩, h5, by simp only [List.length_cons]; omega, fun x hx => ?_⟩
  · have : ¬ j = op.length := by omega
    simp [zu, this]
  · rcases List.mem_cons.mp hx with rfl | hx
    · exact hd
    · exact h7 x hx
theorem PM_mv {σ σ' : Nat → Nat → Int32} {ks op : List Nat} (h : PM σ ks op) (e : ∀ b, b = 69 ∨ b = 70 ∨ b = 67 → ∀ j, σ' b j = σ b j) : PM σ' ks op := by
  obtain ⟨h1, h2, h3, h4, h5⟩ := h
  exact ⟨(e _ (by simp) _).trans h1, (e _ (by simp) _).trans h2, zOp_mv h3 (fun j _ => e _ (by simp) j), zOp_mv h4 (fun j _ => e _ (by simp) j), h5⟩
theorem ndF_mv {σ σ' : Nat → Nat → Int32} (h : ∀ j, σ' 68 j = σ 68 j) (L f : Nat) : ∀ p, ndF σ' L p f = ndF σ L p f := by
  induction f with
  | zero => exact fun _ => rfl
  | succ f ih => exact fun p => by rw [ndF_s, ndF_s, h, ih]
theorem nvF_mv {σ σ' : Nat → Nat → Int32} (h : ∀ j, σ' 68 j = σ 68 j) (p d : Nat) : nvF σ' p d = nvF σ p d := by
  induction d with
  | zero => rfl
  | succ d ih => simp only [nvF, ih, h]
theorem txN_mv {σ σ' : Nat → Nat → Int32} (h : ∀ j, σ' 68 j = σ 68 j) (p : Nat) : txN σ' p = txN σ p := by unfold txN; rw [h]
theorem nmBad_mv {σ σ' : Nat → Nat → Int32} (h : ∀ j, σ' 68 j = σ 68 j) (L p : Nat) : nmBad σ' L p = nmBad σ L p := by unfold nmBad; rw [h, h, txN_mv h]
theorem nmTwo_mv {σ σ' : Nat → Nat → Int32} (h : ∀ j, σ' 68 j = σ 68 j) (L p : Nat) : nmTwo σ' L p = nmTwo σ L p := by unfold nmTwo; rw [h, h, txN_mv h]
theorem nmV_mv {σ σ' : Nat → Nat → Int32} (h : ∀ j, σ' 68 j = σ 68 j) (L p : Nat) : nmV σ' L p = nmV σ L p := by unfold nmV; rw [nmTwo_mv h, txN_mv h, txN_mv h]
theorem nmP_mv {σ σ' : Nat → Nat → Int32} (h : ∀ j, σ' 68 j = σ 68 j) (L p : Nat) : nmP σ' L p = nmP σ L p := by unfold nmP; rw [nmTwo_mv h]
theorem ndF_pos {σ : Nat → Nat → Int32} {L p f : Nat} (hp : p < L) (h : figB (σ 68 p) = true) : 0 < ndF σ L p (f + 1) := by
  rw [ndF_s, if_pos ⟨hp, h⟩]; omega
theorem nmP_L {σ : Nat → Nat → Int32} {L p : Nat} (hp : p < L) (h : nmBad σ L p = false) : p < nmP σ L p ∧ nmP σ L p ≤ L := by
  have h1 : ¬ p + 1 = L := by
    simp only [nmBad, Bool.or_eq_false_iff, decide_eq_false_iff_not] at h
    exact h.1
  unfold nmP
  split
  · rename_i q
    simp only [nmTwo, Bool.and_eq_true, decide_eq_true_eq] at q
    omega
  · omega

