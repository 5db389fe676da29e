
/-! ===== the tokens of a text without a fault are well made ===== -/
def dL : List Nat → Nat
  | [] => 0
  | x :: s => dL s + 1 - ar x
def okL : List Nat → Prop
  | [] => True
  | x :: s => tokR x ∧ ar x ≤ dL s ∧ okL s
theorem zOp_w {σ : Nat → Nat → Int32} {a : Nat} {s : List Nat} (h : zOp σ a s) (hb : ∀ x, x ∈ s → x < 2147483648) (hk : okL s) : dpt (fun k => (σ a k).toNatClampNeg) s.length = dL s ∧ ∀ k, k < s.length → (tokR (σ a k).toNatClampNeg ∧ ar (σ a k).toNatClampNeg ≤ dpt (fun k => (σ a k).toNatClampNeg) k) ∧ σ a k = nI (σ a k).toNatClampNeg := by
  induction s with
  | nil => exact ⟨rfl, fun k hk => absurd hk (by simp)⟩
  | cons x s ih =>
    obtain ⟨i1, i2⟩ := ih h.2 (fun y hy => hb y (List.mem_cons_of_mem _ hy)) hk.2.2
    have ex : (σ a s.length).toNatClampNeg = x := by rw [h.1]; exact nI_clamp (hb x (List.mem_cons_self ..))
    refine ⟨?_, fun k hk' => ?_⟩
    · show dpt _ s.length + 1 - ar (σ a s.length).toNatClampNeg = _
      rw [i1, ex]; rfl
    · by_cases e : k = s.length
      · subst e
        rw [ex, i1]
        exact ⟨⟨hk.1, hk.2.1⟩, h.1⟩
      · exact i2 k (by simp only [List.length_cons] at hk'; omega)
def bin (op : List Nat) : Nat := op.countP (fun d => decide (d ≠ 1 ∧ d ≠ 11))
def tot (o : Nat) : Nat := if o = 40 then 1 else if o = 105 then 3 else 2
def fa : List (Bool × Nat × Nat) → Nat
  | [] => 0
  | f :: s => fa s + (tot f.2.1 - f.2.2)
def opR (d : Nat) : Prop := (1 ≤ d ∧ d ≤ 7) ∨ d = 11
def frR (f : Bool × Nat × Nat) : Prop := (f.2.1 = 40 ∨ f.2.1 = 105 ∨ f.2.1 = 109 ∨ f.2.1 = 110) ∧ 1 ≤ f.2.2 ∧ f.2.2 ≤ tot f.2.1
/-- values made: one for each deed that waits, for each thing between commas, for the part that stands -/
def TV (w : Bool) (ks op : List Nat) (fr : List (Bool × Nat × Nat)) : Prop := okL ks ∧ dL ks = bin op + fa fr + (if w = true then 0 else 1) ∧ (∀ d, d ∈ op → opR d) ∧ ∀ f, f ∈ fr → frR f
theorem tok_deed {d : Nat} (h : 1 ≤ d ∧ d ≤ 10) : tokR (30000 + d) ∧ ar (30000 + d) = (if d = 1 then 1 else if d = 10 then 3 else 2) := by
  refine ⟨Or.inr (Or.inr (Or.inr (Or.inr (by omega)))), ?_⟩
  unfold ar
  rw [if_neg (by omega)]
  by_cases h1 : d = 1
  · subst h1; rfl
  · rw [if_neg (by omega), if_neg h1]
    by_cases h2 : d = 10
    · subst h2; rfl
    · rw [if_neg (by omega), if_neg h2]
theorem clsF_tv (r : Nat) (op : List Nat) (fr : List (Bool × Nat × Nat)) : ∀ ks : List Nat, TV false ks op fr → TV false (clsF r ks op).1 (clsF r ks op).2 fr := by
  induction op with
  | nil => exact fun ks h => h
  | cons d s ih =>
    intro ks h
    by_cases e : d ≠ 11 ∧ r ≤ rkN d
    · rw [clsF_s e]
      refine ih _ ?_
      obtain ⟨h1, h2, h3, h4⟩ := h
      have hd : 1 ≤ d ∧ d ≤ 7 := by
        rcases h3 d (List.mem_cons_self ..) with q | q
        · exact q
        · exact absurd q e.1
      obtain ⟨t1, t2⟩ := tok_deed (d := d) (by omega)
      simp only [Bool.false_eq_true, if_false] at h2
      refine ⟨⟨t1, ?_, h1⟩, ?_, fun x hx => h3 x (List.mem_cons_of_mem _ hx), h4⟩
      · rw [t2]
        by_cases q : d = 1
        · rw [if_pos q]; omega
        · have : bin (d :: s) = bin s + 1 := by simp [bin, q, e.1]
          rw [if_neg q, if_neg (by omega)]; omega
      · simp only [dL, Bool.false_eq_true, if_false]
        rw [t2]
        by_cases q : d = 1
        · have : bin (d :: s) = bin s := by simp [bin, q]
          rw [if_pos q]; omega
        · have : bin (d :: s) = bin s + 1 := by simp [bin, q, e.1]
          rw [if_neg q, if_neg (by omega)]; omega
    · rw [clsF_n e]; exact h
theorem TV_tok {ks op : List Nat} {fr : List (Bool × Nat × Nat)} (h : TV true ks op fr) {x : Nat} (hx : tokR x ∧ x < 30000) : TV false (x :: ks) op fr := by
  obtain ⟨h1, h2, h3, h4⟩ := h
  have e : ar x = 0 := if_pos hx.2
  simp only [if_true] at h2
  refine ⟨⟨hx.1, by omega, h1⟩, ?_, h3, h4⟩
  simp only [dL, Bool.false_eq_true, if_false]
  omega
theorem TV_neg {ks op : List Nat} {fr : List (Bool × Nat × Nat)} (h : TV true ks op fr) : TV true ks (1 :: op) fr := by
  obtain ⟨h1, h2, h3, h4⟩ := h
  have e : bin (1 :: op) = bin op := by simp [bin]
  refine ⟨h1, by rw [e]; exact h2, fun d hd => ?_, h4⟩
  rcases List.mem_cons.mp hd with rfl | hd
  · exact Or.inl (by omega)
  · exact h3 d hd
theorem TV_open {ks op : List Nat} {fr : List (Bool × Nat × Nat)} (h : TV true ks op fr) {o : Nat} (ho : o = 40 ∨ o = 105 ∨ o = 109 ∨ o = 110) : TV true ks (11 :: op) ((false, o, tot o) :: fr) := by
  obtain ⟨h1, h2, h3, h4⟩ := h
  have e : bin (11 :: op) = bin op := by simp [bin]
  refine ⟨h1, by rw [e, h2]; simp [fa], fun d hd => ?_, fun f hf => ?_⟩
  · rcases List.mem_cons.mp hd with rfl | hd
    · exact Or.inr rfl
    · exact h3 d hd
  · rcases List.mem_cons.mp hf with rfl | hf
    · refine ⟨ho, ?_, Nat.le_refl _⟩
      rcases ho with rfl | rfl | rfl | rfl <;> decide
    · exact h4 f hf
theorem TV_deed {ks op : List Nat} {f : Bool × Nat × Nat} {fs : List (Bool × Nat × Nat)} (r : Nat) (h : TV false ks op (f :: fs)) {d : Nat} (hd : 2 ≤ d ∧ d ≤ 7) (b : Bool) : TV true (clsF r ks op).1 (d :: (clsF r ks op).2) ((b, f.2) :: fs) := by
  obtain ⟨h1, h2, h3, h4⟩ := clsF_tv r op _ ks h
  have e : bin (d :: (clsF r ks op).2) = bin (clsF r ks op).2 + 1 := by
    have q1 : d ≠ 1 := by omega
    have q2 : d ≠ 11 := by omega
    simp [bin, q1, q2]
  refine ⟨h1, ?_, fun x hx => ?_, fun x hx => ?_⟩
  · rw [e, h2]; simp only [fa, Bool.false_eq_true, if_false, if_true]; omega
  · rcases List.mem_cons.mp hx with rfl | hx
    · exact Or.inl (by omega)
    · exact h3 x hx
  · rcases List.mem_cons.mp hx with rfl | hx
    · exact h4 f (List.mem_cons_self ..)
    · exact h4 x (List.mem_cons_of_mem _ hx)
theorem TV_comma {ks op : List Nat} {f : Bool × Nat × Nat} {fs : List (Bool × Nat × Nat)} (h : TV false ks op (f :: fs)) (ha : 1 < f.2.2) (b : Bool) : TV true (clsF 0 ks op).1 (clsF 0 ks op).2 ((b, f.2.1, f.2.2 - 1) :: fs) := by
  obtain ⟨h1, h2, h3, h4⟩ := clsF_tv 0 op _ ks h
  obtain ⟨f1, f2, f3⟩ := h4 f (List.mem_cons_self ..)
  refine ⟨h1, ?_, h3, fun x hx => ?_⟩
  · rw [h2]; simp only [fa, Bool.false_eq_true, if_false, if_true]; omega
  · rcases List.mem_cons.mp hx with rfl | hx
    · exact ⟨f1, by dsimp only; omega, by dsimp only; omega⟩
    · exact h4 x (List.mem_cons_of_mem _ hx)
theorem TV_shut {ks op os : List Nat} {f : Bool × Nat × Nat} {fs : List (Bool × Nat × Nat)} (h : TV false ks op (f :: fs)) (ha : f.2.2 = 1) (he : (clsF 0 ks op).2 = 11 :: os) : TV false (if f.2.1 ≠ 40 then (30000 + (if f.2.1 = 109 then 8 else if f.2.1 = 110 then 9 else 10)) :: (clsF 0 ks op).1 else (clsF 0 ks op).1) os fs := by
  obtain ⟨h1, h2, h3, h4⟩ := clsF_tv 0 op _ ks h
  obtain ⟨f1, f2, f3⟩ := h4 f (List.mem_cons_self ..)
  rw [he] at h2 h3
  have e : bin (11 :: os) = bin os := by simp [bin]
  rw [e] at h2
  simp only [fa, Bool.false_eq_true, if_false, ha] at h2
  have h3' : ∀ d, d ∈ os → opR d := fun d hd => h3 d (List.mem_cons_of_mem _ hd)
  have h4' : ∀ x, x ∈ fs → frR x := fun x hx => h4 x (List.mem_cons_of_mem _ hx)
  rcases f1 with q | q | q | q
  · rw [if_neg (fun z => z q)]
    rw [q] at h2
    exact ⟨h1, by rw [h2]; simp [tot], h3', h4'⟩
  all_goals
    rw [if_pos (by rw [q]; decide)]
    rw [q] at h2 ⊢
    first
      | rw [show tot 105 = 3 from rfl] at h2
      | rw [show tot 109 = 2 from rfl] at h2
      | rw [show tot 110 = 2 from rfl] at h2
    refine ⟨⟨Or.inr (Or.inr (Or.inr (Or.inr (by decide)))), ?_, h1⟩, ?_, h3', h4'⟩
    · simp [ar]; omega
    · simp only [dL, Bool.false_eq_true, if_false]; simp [ar]; omega

