
/-- the tokens that were made last, laid into a step: as far as i -/
def fmP (S : Nat → Nat → Int32) (n len i : Nat) : Nat → Nat → Int32 := fun b j => if b = 103 ∧ 30 * n ≤ j ∧ j < 30 * n + i then S 69 (j - 30 * n) else if b = 104 ∧ j = n then nI len else S b j
theorem fmP_0 (S : Nat → Nat → Int32) (n len : Nat) : fmP S n len 0 = zu S 104 n (nI len) := by
  funext b j
  have h : ¬ (b = 103 ∧ 30 * n ≤ j ∧ j < 30 * n + 0) := fun q => by omega
  simp only [fmP, h, if_false, zu]
theorem fmP_s (S : Nat → Nat → Int32) (n len i : Nat) : zu (fmP S n len i) 103 (30 * n + i) (S 69 i) = fmP S n len (i + 1) := by
  funext b j
  simp only [zu, fmP]
  by_cases hb : b = 103
  · subst hb
    by_cases hj : j = 30 * n + i
    · subst hj
      have e : 30 * n + i - 30 * n = i := by omega
      have q : 30 * n ≤ 30 * n + i ∧ 30 * n + i < 30 * n + (i + 1) := ⟨by omega, by omega⟩
      simp only [true_and, if_true, q, and_self, e]
    · have q : (30 * n ≤ j ∧ j < 30 * n + (i + 1)) ↔ (30 * n ≤ j ∧ j < 30 * n + i) := by omega
      simp only [true_and, hj, if_false, q]
  · simp only [hb, false_and, if_false]
theorem fmP_ne (S : Nat → Nat → Int32) (n len i : Nat) {b : Nat} (h : b ≠ 103 ∧ b ≠ 104) (j : Nat) : fmP S n len i b j = S b j := by
  simp only [fmP, h.1, h.2, false_and, if_false]
theorem fmP_q (S : Nat → Nat → Int32) (n len i : Nat) : zq n S (fmP S n len i) := by
  refine zq_of (fun b hb j => fmP_ne S n len i ⟨by rintro rfl; exact absurd hb (by decide), by rintro rfl; exact absurd hb (by decide)⟩ j) (fmP_ne S n len i (by decide) _) (fmP_ne S n len i (by decide) _) (fun s _ _ => ⟨fmP_ne S n len i (by decide) _, fmP_ne S n len i (by decide) _⟩) (fun c _ _ => fmP_ne S n len i (by decide) _) (fun c k _ _ => fmP_ne S n len i (by decide) _) (fun b hb k hk => ?_) (fun k hk j hj => ?_)
  · have e : ¬ k = n := by omega
    have e2 : b ≠ 103 := by rintro rfl; exact absurd hb (by decide)
    simp only [fmP, e2, e, and_false, false_and, if_false]
  · have e : ¬ (30 * n ≤ 30 * k + j ∧ 30 * k + j < 30 * n + i) := by omega
    simp only [fmP, e, and_false, if_false, show ¬ (103 : Nat) = 104 by decide, false_and]
/-- a formula's step -/
theorem kp_formula {n : Nat} {S : Nat → Nat → Int32} (h : RV n S) {c len : Nat} (hc : c < 12) (hw : WF (fun k => (S 69 k).toNatClampNeg) len) (hm : ∀ k, k < len → S 69 k = nI (S 69 k).toNatClampNeg) (hh : bt (belF S false (whP S len)) c = false) :
    stepV (kpS (fmP S n len len) n 0 (nI c) 0 0) n ∧ (kpS (fmP S n len len) n 0 (nI c) 0 0 98 n ≠ 10 → RI (chgF (kpS (fmP S n len len) n 0 (nI c) 0 0) n)) := by
  have hq : zq n S (kpS (fmP S n len len) n 0 (nI c) 0 0) := zq_trans (fmP_q S n len len) (kpS_q _ _ _ _ _ _)
  have hR : RI (kpS (fmP S n len len) n 0 (nI c) 0 0) := RI_q hq h.ri
  obtain ⟨e1, e2, e3, e4⟩ := kp_at (fmP S n len len) n 0 (nI c) 0 0
  have h30 : len ≤ 30 := hw.1
  have eL : kpS (fmP S n len len) n 0 (nI c) 0 0 104 n = nI len := by
    rw [kp_ne _ _ _ _ _ _ (by decide)]
    simp [fmP]
  have eC : ∀ k, k < len → kpS (fmP S n len len) n 0 (nI c) 0 0 103 (30 * n + k) = S 69 k := fun k hk => by
    rw [kp_ne _ _ _ _ _ _ (by decide)]
    have q : 30 * n ≤ 30 * n + k ∧ 30 * n + k < 30 * n + len := ⟨by omega, by omega⟩
    simp only [fmP, true_and, q, and_self, if_true]
    rw [show 30 * n + k - 30 * n = k by omega]
  generalize kpS (fmP S n len len) n 0 (nI c) 0 0 = τ at *
  have ec : stC τ n = c := by unfold stC; rw [e2]; exact nI_clamp (by omega)
  have en : stN τ n = len := by unfold stN; rw [eL]; exact nI_clamp (by omega)
  have hWs : WFs τ n len := by
    have ew : ∀ k, k < len → stw τ n k = (S 69 k).toNatClampNeg := fun k hk => by unfold stw; rw [eC k hk]
    exact ⟨WF_eq ew hw, eL, fun k hk => by rw [eC k hk, ew k hk]; exact hm k hk⟩
  have hmk : ∀ k, k ≤ len → maskP τ n 20000 20999 k = whP S k := by
    intro k
    induction k with
    | zero => exact fun _ => rfl
    | succ k ih => exact fun hk => by simp only [maskP, whP]; rw [ih (by omega), eC k (by omega)]
  refine ⟨Or.inl ⟨Or.inl e1, by omega, by rw [ec]; exact e2, fun _ => by rw [en]; exact ⟨h30, eL⟩⟩, fun _ => ?_⟩
  unfold chgF setCF
  rw [if_pos (by rw [e1]; decide), if_pos e1, ec, en]
  refine (giveF_ok hR hc hWs ?_).1
  rw [hmk len (Nat.le_refl _), belF_q hq]
  exact hh

