
theorem rnF_r {σ : Nat → Nat → Int32} {L f p p' : Nat} {w w' : Bool} {ks op ks' op' : List Nat} {fr fr' : List (Bool × Nat × Nat)} (hp : p < L) (h : stF σ L w p ks op fr = .inr (w', p', ks', op', fr')) : rnF σ L (f + 1) w p ks op fr = rnF σ L f w' p' ks' op' fr' := by
  rw [rnF, if_pos hp, h]
theorem rnF_l {σ : Nat → Nat → Int32} {L f p q : Nat} {w : Bool} {ks op : List Nat} {fr : List (Bool × Nat × Nat)} (hp : p < L) (h : stF σ L w p ks op fr = .inl q) : rnF σ L (f + 1) w p ks op fr = .inl q := by
  rw [rnF, if_pos hp, h]
theorem rnF_e {σ : Nat → Nat → Int32} {L f p : Nat} {w : Bool} {ks op : List Nat} {fr : List (Bool × Nat × Nat)} (hp : ¬ p < L) : rnF σ L (f + 1) w p ks op fr = .inr (w, p, ks, op, fr) := by
  rw [rnF, if_neg hp]
def fltI (R : Nat ⊕ zPS) (L : Nat) : Int32 := match R with
  | .inl q => nI q
  | .inr s => if s.1 = true ∨ s.2.2.2.2.length ≠ 1 then nI L else -1
theorem fltI_1 (p : Nat) (ks op : List Nat) (fr : List (Bool × Nat × Nat)) (L : Nat) : fltI (.inr (true, p, ks, op, fr)) L = nI L := by simp [fltI]
theorem fltI_2 (w : Bool) (p : Nat) (ks op : List Nat) (fr : List (Bool × Nat × Nat)) (L : Nat) (h : fr.length ≠ 1) : fltI (.inr (w, p, ks, op, fr)) L = nI L := by simp [fltI, h]
theorem fltI_3 (p : Nat) (ks op : List Nat) (fr : List (Bool × Nat × Nat)) (L : Nat) (h : fr.length = 1) : fltI (.inr (false, p, ks, op, fr)) L = -1 := by simp [fltI, h]
/-- the reference's reading of the text, to its end -/
def rdF (σ : Nat → Nat → Int32) (L : Nat) : Nat ⊕ zPS := rnF σ L 31 true 0 [] [] [(false, 40, 1)]
def rdK (R : Nat ⊕ zPS) : List Nat × List Nat := match R with
  | .inl _ => ([], [])
  | .inr s => clsF 0 s.2.2.1 s.2.2.2.1

theorem stF_le {σ : Nat → Nat → Int32} {L p q : Nat} {w : Bool} {ks op : List Nat} {fr : List (Bool × Nat × Nat)} (hp : p < L) (hL : L ≤ 30) (h : stF σ L w p ks op fr = .inl q) : q ≤ 30 := by
  unfold stF at h
  repeat' split at h
  all_goals first
    | (cases h; done)
    | (injection h with h; omega)
    | (injection h with h; split at h <;> omega)

