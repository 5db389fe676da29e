
/-- a row of an array holds a list, the last one put first -/
def zOp (σ : Nat → Nat → Int32) (a : Nat) : List Nat → Prop
  | [] => True
  | x :: s => σ a s.length = nI x ∧ zOp σ a s
theorem zOp_mv {σ σ' : Nat → Nat → Int32} {a : Nat} {s : List Nat} (h : zOp σ a s) (e : ∀ j, j < s.length → σ' a j = σ a j) : zOp σ' a s := by
  induction s with
  | nil => trivial
  | cons x s ih => exact ⟨(e s.length (Nat.lt_succ_self _)).trans h.1, ih h.2 (fun j hj => e j (by simp only [List.length_cons]; omega))⟩
theorem zOp_push {σ : Nat → Nat → Int32} {a : Nat} {s : List Nat} (h : zOp σ a s) (x : Nat) : zOp (zu σ a s.length (nI x)) a (x :: s) :=
  ⟨zu_eq _ _ _ _, zOp_mv h (fun j hj => by have : ¬ j = s.length := by omega
                                           simp [zu, this])⟩
def rkN (d : Nat) : Nat := if d = 1 then 4 else if d = 4 then 3 else if d = 2 ∨ d = 3 then 2 else if d = 11 then 0 else 1
theorem rkN_eq : ∀ d, d < 12 → rankN (nI d) = nI (rkN d) := by decide +kernel
theorem rkN_le (d : Nat) : rkN d ≤ 4 := by
  unfold rkN
  repeat' split
  all_goals omega
/-- open deeds are made, down to a rank or to where something was opened -/
def clsF (r : Nat) : List Nat → List Nat → List Nat × List Nat
  | ks, [] => (ks, [])
  | ks, d :: s => if d ≠ 11 ∧ r ≤ rkN d then clsF r ((30000 + d) :: ks) s else (ks, d :: s)
def ng (op : List Nat) : Nat := op.countP (fun d => decide (d ≠ 11))
def PM (σ : Nat → Nat → Int32) (mk op : List Nat) : Prop := σ 67 3 = nI mk.length ∧ σ 67 5 = nI op.length ∧ zOp σ 69 mk ∧ zOp σ 70 op ∧ mk.length ≤ 30 ∧ op.length ≤ 62 ∧ ∀ d, d ∈ op → d < 12
/-- the same but for what is made and how much is open -/
def zpc (σ σ' : Nat → Nat → Int32) : Prop := ∀ b j, b ≠ 69 → ¬ (b = 67 ∧ (j = 3 ∨ j = 5)) → σ' b j = σ b j
theorem zpc_refl (σ : Nat → Nat → Int32) : zpc σ σ := fun _ _ _ _ => rfl
theorem zpc_trans {a b c : Nat → Nat → Int32} (h1 : zpc a b) (h2 : zpc b c) : zpc a c := fun x j p q => (h2 x j p q).trans (h1 x j p q)
theorem PM_close {σ : Nat → Nat → Int32} {mk s : List Nat} {d : Nat} (h : PM σ mk (d :: s)) (hn : mk.length < 30) : PM (zu (zu (zu σ 67 5 (nI s.length)) 69 mk.length (nI (30000 + d))) 67 3 (nI (mk.length + 1))) ((30000 + d) :: mk) s ∧ zpc σ (zu (zu (zu σ 67 5 (nI s.length)) 69 mk.length (nI (30000 + d))) 67 3 (nI (mk.length + 1))) := by
  obtain ⟨h1, h2, h3, h4, h5, h6, h7⟩ := h
  simp only [List.length_cons] at h6
  refine ⟨⟨by simp [zu], by simp [zu], ?_, ?_, by simp only [List.length_cons]; omega, by omega, fun x hx => h7 x (List.mem_cons_of_mem _ hx)⟩, ?_⟩
  · refine ⟨by simp [zu], zOp_mv h3 (fun j hj => ?_)⟩
    have : ¬ j = mk.length := by omega
    simp [zu, this]
  · exact zOp_mv h4.2 (fun j hj => by simp [zu])
  · intro b j hb hc
    have h1 : ¬ (b = 67 ∧ j = 5) := fun q => hc ⟨q.1, Or.inr q.2⟩
    have h2 : ¬ (b = 67 ∧ j = 3) := fun q => hc ⟨q.1, Or.inl q.2⟩
    simp only [zu, h1, h2, hb, false_and, if_false]
theorem clsF_s {r d : Nat} {mk s : List Nat} (h : d ≠ 11 ∧ r ≤ rkN d) : clsF r mk (d :: s) = clsF r ((30000 + d) :: mk) s := by rw [clsF, if_pos h]
theorem clsF_n {r d : Nat} {mk s : List Nat} (h : ¬ (d ≠ 11 ∧ r ≤ rkN d)) : clsF r mk (d :: s) = (mk, d :: s) := by rw [clsF, if_neg h]

