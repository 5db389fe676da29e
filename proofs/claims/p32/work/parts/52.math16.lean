
/-! ===== the reference's reading of a text: wants, place, made, open, levels ===== -/
def g11 (op : List Nat) : Nat := op.countP (fun d => decide (d = 11))
def fnc (fr : List (Bool × Nat × Nat)) : Nat := fr.countP (fun f => decide (f.2.1 ≠ 40))
theorem clsF_ok (r : Nat) (op : List Nat) : ∀ ks : List Nat, (clsF r ks op).1.length + ng (clsF r ks op).2 = ks.length + ng op ∧ g11 (clsF r ks op).2 = g11 op ∧ ((∀ d, d ∈ op → d < 12) → ∀ d, d ∈ (clsF r ks op).2 → d < 12) ∧ (clsF r ks op).2.length ≤ op.length := by
  induction op with
  | nil => exact fun ks => ⟨rfl, rfl, fun h => h, Nat.le_refl _⟩
  | cons d s ih =>
    intro ks
    by_cases h : d ≠ 11 ∧ r ≤ rkN d
    · rw [clsF_s h]
      obtain ⟨h1, h2, h3, h4⟩ := ih ((30000 + d) :: ks)
      have e1 : ng (d :: s) = ng s + 1 := by simp [ng, h.1]
      have e2 : g11 (d :: s) = g11 s := by simp [g11, h.1]
      refine ⟨by rw [h1, e1]; simp only [List.length_cons]; omega, h2.trans e2.symm, fun q => h3 (fun x hx => q x (List.mem_cons_of_mem _ hx)), by simp only [List.length_cons]; omega⟩
    · rw [clsF_n h]
      exact ⟨rfl, rfl, fun q => q, Nat.le_refl _⟩
theorem clsF_0 (op : List Nat) : ∀ ks : List Nat, 0 < g11 op → ∃ os, (clsF 0 ks op).2 = 11 :: os := by
  induction op with
  | nil => exact fun ks h => absurd h (by decide)
  | cons d s ih =>
    intro ks h
    by_cases e : d = 11
    · rw [clsF_n (fun q => q.1 e)]
      exact ⟨s, by rw [e]⟩
    · rw [clsF_s ⟨e, Nat.zero_le _⟩]
      refine ih _ ?_
      simpa [g11, e] using h
theorem len_ng (op : List Nat) : op.length = ng op + g11 op := by
  induction op with
  | nil => rfl
  | cons d s ih =>
    by_cases e : d = 11
    · simp [ng, g11, e] at ih ⊢
      omega
    · simp [ng, g11, e] at ih ⊢
      omega
def zPS : Type := Bool × Nat × List Nat × List Nat × List (Bool × Nat × Nat)
/-- one letter, or what begins there -/
def stF (σ : Nat → Nat → Int32) (L : Nat) (w : Bool) (p : Nat) (ks op : List Nat) (fr : List (Bool × Nat × Nat)) : Nat ⊕ zPS :=
  if w = true ∧ figB (σ 68 p) = true then .inr (false, p + ndF σ L p 4, nvF σ p (ndF σ L p 4) :: ks, op, fr)
  else if w = true ∧ namB (σ 68 p) = true then
    (if nmBad σ L p = true then .inl (p + 1) else .inr (false, nmP σ L p, (nmBase (σ 68 p) + nmV σ L p) :: ks, op, fr))
  else if w = true ∧ σ 68 p = 45 then .inr (true, p + 1, ks, 1 :: op, fr)
  else if w = true ∧ (σ 68 p = 40 ∨ funB (σ 68 p) = true) then
    (if (if σ 68 p = 40 then p else p + 1) = L ∨ σ 68 (if σ 68 p = 40 then p else p + 1) ≠ 40 then .inl (if σ 68 p = 40 then p else p + 1)
     else .inr (true, (if σ 68 p = 40 then p else p + 1) + 1, ks, 11 :: op, (false, txN σ p, if σ 68 p = 40 then 1 else if σ 68 p = 105 then 3 else 2) :: fr))
  else if w = true then .inl p
  else match fr with
    | [] => .inl p
    | f :: fs =>
      if 0 < deedN (σ 68 p) then
        (if 5 ≤ deedN (σ 68 p) ∧ f.1 = true then .inl p
         else .inr (true, p + 1, (clsF (rkN (deedN (σ 68 p)).toNatClampNeg) ks op).1, (deedN (σ 68 p)).toNatClampNeg :: (clsF (rkN (deedN (σ 68 p)).toNatClampNeg) ks op).2, (f.1 || decide (5 ≤ deedN (σ 68 p)), f.2) :: fs))
      else if σ 68 p = 44 ∧ fs ≠ [] ∧ 1 < f.2.2 then .inr (true, p + 1, (clsF 0 ks op).1, (clsF 0 ks op).2, (false, f.2.1, f.2.2 - 1) :: fs)
      else if σ 68 p = 41 ∧ fs ≠ [] ∧ f.2.2 = 1 then
        .inr (false, p + 1, (if f.2.1 ≠ 40 then (30000 + (if f.2.1 = 109 then 8 else if f.2.1 = 110 then 9 else 10)) :: (clsF 0 ks op).1 else (clsF 0 ks op).1), (clsF 0 ks op).2.tail, fs)
      else .inl p
def rnF (σ : Nat → Nat → Int32) (L : Nat) : Nat → Bool → Nat → List Nat → List Nat → List (Bool × Nat × Nat) → Nat ⊕ zPS
  | 0, w, p, ks, op, fr => .inr (w, p, ks, op, fr)
  | f + 1, w, p, ks, op, fr => if p < L then (match stF σ L w p ks op fr with
      | .inl q => .inl q
      | .inr s => rnF σ L f s.1 s.2.1 s.2.2.1 s.2.2.2.1 s.2.2.2.2) else .inr (w, p, ks, op, fr)
/-- what holds all along -/
def IV (p : Nat) (ks op : List Nat) (fr : List (Bool × Nat × Nat)) : Prop := ks.length + ng op + fnc fr ≤ p ∧ g11 op + 1 = fr.length ∧ fr.length ≤ p + 1 ∧ (∀ d, d ∈ op → d < 12) ∧ ∀ f, f ∈ fr → f.2.1 < 128 ∧ f.2.2 ≤ 3
theorem IV_ks {p : Nat} {ks op : List Nat} {fr : List (Bool × Nat × Nat)} (h : IV p ks op fr) : ks.length ≤ p ∧ op.length ≤ 2 * p := by
  obtain ⟨h1, h2, h3, -, -⟩ := h
  have := len_ng op
  omega
theorem IV_tok {p q : Nat} {ks op : List Nat} {fr : List (Bool × Nat × Nat)} (h : IV p ks op fr) (x : Nat) (hq : p < q) : IV q (x :: ks) op fr := by
  obtain ⟨h1, h2, h3, h4, h5⟩ := h
  exact ⟨by simp only [List.length_cons]; omega, h2, by omega, h4, h5⟩
theorem IV_neg {p : Nat} {ks op : List Nat} {fr : List (Bool × Nat × Nat)} (h : IV p ks op fr) : IV (p + 1) ks (1 :: op) fr := by
  obtain ⟨h1, h2, h3, h4, h5⟩ := h
  have e1 : ng (1 :: op) = ng op + 1 := by simp [ng]
  have e2 : g11 (1 :: op) = g11 op := by simp [g11]
  refine ⟨by omega, by omega, by omega, fun d hd => ?_, h5⟩
  rcases List.mem_cons.mp hd with rfl | hd
  · decide
  · exact h4 d hd
theorem IV_open {p q : Nat} {ks op : List Nat} {fr : List (Bool × Nat × Nat)} (h : IV p ks op fr) {s a : Nat} (hs : s < 128) (ha : a ≤ 3) (hq : (s = 40 ∧ q = p) ∨ q = p + 1) : IV (q + 1) ks (11 :: op) ((false, s, a) :: fr) := by
  obtain ⟨h1, h2, h3, h4, h5⟩ := h
  have e1 : ng (11 :: op) = ng op := by simp [ng]
  have e2 : g11 (11 :: op) = g11 op + 1 := by simp [g11]
  have e3 : fnc ((false, s, a) :: fr) ≤ fnc fr + 1 ∧ (s = 40 → fnc ((false, s, a) :: fr) = fnc fr) := by
    by_cases e : s = 40
    · simp [fnc, e]
    · simp [fnc, e]
  refine ⟨?_, by simp only [List.length_cons]; omega, by simp only [List.length_cons]; omega, fun d hd => ?_, fun f hf => ?_⟩
  · rcases hq with ⟨e, q1⟩ | q1
    · have := e3.2 e; omega
    · have := e3.1; omega
  · rcases List.mem_cons.mp hd with rfl | hd
    · decide
    · exact h4 d hd
  · rcases List.mem_cons.mp hf with rfl | hf
    · exact ⟨hs, ha⟩
    · exact h5 f hf
theorem IV_deed {p : Nat} {ks op : List Nat} {f : Bool × Nat × Nat} {fs : List (Bool × Nat × Nat)} (h : IV p ks op (f :: fs)) {r d : Nat} (hd : d < 11) (b : Bool) : IV (p + 1) (clsF r ks op).1 (d :: (clsF r ks op).2) ((b, f.2) :: fs) := by
  obtain ⟨h1, h2, h3, h4, h5⟩ := h
  obtain ⟨c1, c2, c3, c4⟩ := clsF_ok r op ks
  have n11 : ¬ d = 11 := by omega
  have e1 : ng (d :: (clsF r ks op).2) = ng (clsF r ks op).2 + 1 := by simp [ng, n11]
  have e2 : g11 (d :: (clsF r ks op).2) = g11 (clsF r ks op).2 := by simp [g11, n11]
  have e3 : fnc ((b, f.2) :: fs) = fnc (f :: fs) := by simp [fnc, List.countP_cons]
  refine ⟨by omega, ?_, by simp only [List.length_cons] at h3 ⊢; omega, fun x hx => ?_, fun x hx => ?_⟩
  · rw [e2, c2, h2]; rfl
  · rcases List.mem_cons.mp hx with rfl | hx
    · omega
    · exact c3 h4 x hx
  · rcases List.mem_cons.mp hx with rfl | hx
    · exact h5 f (List.mem_cons_self ..)
    · exact h5 x (List.mem_cons_of_mem _ hx)
theorem IV_comma {p : Nat} {ks op : List Nat} {f : Bool × Nat × Nat} {fs : List (Bool × Nat × Nat)} (h : IV p ks op (f :: fs)) (b : Bool) : IV (p + 1) (clsF 0 ks op).1 (clsF 0 ks op).2 ((b, f.2.1, f.2.2 - 1) :: fs) := by
  obtain ⟨h1, h2, h3, h4, h5⟩ := h
  obtain ⟨c1, c2, c3, c4⟩ := clsF_ok 0 op ks
  have e3 : fnc ((b, f.2.1, f.2.2 - 1) :: fs) = fnc (f :: fs) := by simp [fnc, List.countP_cons]
  refine ⟨by omega, ?_, by simp only [List.length_cons] at h3 ⊢; omega, fun x hx => c3 h4 x hx, fun x hx => ?_⟩
  · rw [c2, h2]; rfl
  · rcases List.mem_cons.mp hx with rfl | hx
    · have := h5 f (List.mem_cons_self ..)
      exact ⟨this.1, by dsimp only; omega⟩
    · exact h5 x (List.mem_cons_of_mem _ hx)
theorem IV_shut {p : Nat} {ks op : List Nat} {f : Bool × Nat × Nat} {fs : List (Bool × Nat × Nat)} (h : IV p ks op (f :: fs)) (hf : fs ≠ []) (x : Nat) : ∃ os, (clsF 0 ks op).2 = 11 :: os ∧ IV (p + 1) (if f.2.1 ≠ 40 then x :: (clsF 0 ks op).1 else (clsF 0 ks op).1) os fs ∧ (f.2.1 ≠ 40 → (clsF 0 ks op).1.length < p) := by
  obtain ⟨h1, h2, h3, h4, h5⟩ := h
  obtain ⟨c1, c2, c3, c4⟩ := clsF_ok 0 op ks
  have hl : 0 < fs.length := List.length_pos_iff.mpr hf
  simp only [List.length_cons] at h2 h3
  obtain ⟨os, e⟩ := clsF_0 op ks (by omega)
  have e1 : ng (clsF 0 ks op).2 = ng os := by rw [e]; simp [ng]
  have e2 : g11 (clsF 0 ks op).2 = g11 os + 1 := by rw [e]; simp [g11]
  have e3 : fnc (f :: fs) = fnc fs + (if f.2.1 ≠ 40 then 1 else 0) := by
    by_cases q : f.2.1 = 40
    · simp [fnc, q]
    · simp [fnc, q]
  refine ⟨os, e, ⟨?_, by omega, by omega, fun d hd => c3 h4 d (by rw [e]; exact List.mem_cons_of_mem _ hd), fun y hy => h5 y (List.mem_cons_of_mem _ hy)⟩, fun q => ?_⟩
  · by_cases q : f.2.1 = 40
    · rw [if_neg (fun z => z q)] at e3 ⊢
      omega
    · rw [if_pos q] at e3 ⊢
      simp only [List.length_cons]
      omega
  · rw [if_pos q] at e3
    omega

