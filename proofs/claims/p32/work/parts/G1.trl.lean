/-! ===== a trial has few starts ===== -/
def TP (j m : Nat) (σ : zS2) : Prop := ∃ B, S1 j B σ ∧ B + 40 * ncut σ ≤ 40 * (m + 5)
theorem TP.up {j m m' : Nat} {σ : zS2} (h : TP j m σ) (hm : m ≤ m') : TP j m' σ := by
  obtain ⟨B, h1, h2⟩ := h
  exact ⟨B, h1, by omega⟩
theorem TP.same {j m : Nat} {σ σ' : zS2} (h : TP j m σ) (h1 : σ' 97 j = σ 97 j) (h2 : ∀ k, σ' 92 k = σ 92 k) : TP j m σ' := by
  obtain ⟨B, b1, b2⟩ := h
  refine ⟨B, b1.same h1 (fun z => (h2 j).symm.trans z), ?_⟩
  rw [ncut_eq (σ := σ) (fun k => by rw [h2 k])]
  exact b2
theorem TP.set {j m : Nat} {σ : zS2} (h : TP j m σ) (hR : RI σ) : TP j (m + 1) (setF 6 σ).1 := by
  obtain ⟨B, b1, b2⟩ := h
  have h1 := b1.set 6
  have h2 := setF_n 6 σ hR
  generalize setF 6 σ = s at h1 h2 ⊢
  exact ⟨_, h1, by omega⟩
def cE (S : zS2) (x n : Nat) : Nat := (List.range n).countP (fun k => decide ((S 102 k).toNatClampNeg = x))
def cL (S : zS2) (x n : Nat) : Nat := (List.range n).countP (fun k => decide ((S 102 k).toNatClampNeg < x))
theorem cL_s (S : zS2) (x n : Nat) : cL S (x + 1) n = cL S x n + cE S x n := by
  induction n with
  | zero => rfl
  | succ n ih =>
    unfold cL cE at *
    rw [List.range_succ, List.countP_append, List.countP_append, List.countP_append, ih]
    generalize (S 102 n).toNatClampNeg = t
    have : (List.countP (fun k => decide ((S 102 k).toNatClampNeg < x + 1)) [n]) = (List.countP (fun k => decide ((S 102 k).toNatClampNeg < x)) [n]) + (List.countP (fun k => decide ((S 102 k).toNatClampNeg = x)) [n]) := by
      simp only [List.countP_cons, List.countP_nil, decide_eq_true_eq]
      generalize (S 102 n).toNatClampNeg = t
      repeat' split
      all_goals omega
    omega
theorem cL_le (S : zS2) (x n : Nat) : cL S x n ≤ n := by
  have h : cL S x n ≤ (List.range n).length := List.countP_le_length
  rw [List.length_range] at h
  exact h
theorem cE_s (S : zS2) (x n : Nat) : cE S x (n + 1) = cE S x n + (if (S 102 n).toNatClampNeg = x then 1 else 0) := by
  unfold cE
  rw [List.range_succ, List.countP_append]
  simp only [List.countP_cons, List.countP_nil, decide_eq_true_eq, Nat.zero_add]
theorem TP.ra {j m e : Nat} {σ : zS2} (h : TP j m σ) (hR : RI σ) (he : σ 67 34 = nI e) (h2 : e ≤ 2000) (n : Nat) : TP j (m + cE σ e n) (raF σ n) := by
  induction n with
  | zero => exact h
  | succ n ih =>
    have z := raF_k σ n
    have hn := raF_now σ n
    have hR' := raF_ok hR n
    rw [raF]
    by_cases q : raF σ n 98 n = 3 ∧ raF σ n 102 n = raF σ n 67 34
    · rw [if_pos q, cE_s]
      obtain ⟨q1, q2⟩ := q
      rw [zkf_st z 102 (by simp), hn, he] at q2
      have q3 : (σ 102 n).toNatClampNeg = e := by rw [q2]; exact nI_clamp (by omega)
      rw [if_pos q3]
      generalize raF σ n = τ at *
      have r1 : TP j (m + cE σ e n) (readF τ (stC τ n) (τ 100 n)) := ih.same (readF_ne _ _ _ (by decide) _) (fun k => readF_ne _ _ _ (by decide) _)
      exact r1.set (hR'.read _ _)
    · rw [if_neg q, cE_s]
      exact ih.up (by split <;> omega)
theorem TP.tr {j n E : Nat} {S : zS2} (hR : RI S) (hj : j < 5) (hE : E ≤ 2000) : ∀ d, d ≤ E - (E - 23) → TP j (1 + d + cL S (E - 23 + d) n) (trL S E n d) := by
  intro d
  induction d with
  | zero =>
    intro _
    have h0 : RI (clearF (zu S 67 34 (nI (E - 23)))) := (hR.now _ _).clear
    have h1 : TP j 0 (clearF (zu S 67 34 (nI (E - 23)))) := by
      refine ⟨0, ⟨0, Nat.le_refl 0, ?_, fun z => ?_⟩, by have := ncut_le (clearF (zu S 67 34 (nI (E - 23)))); omega⟩
      · simp [clearF, clS, clP, zu, hj]
        rfl
      · simp [clearF, clS, clP, zu, hj] at z
    rw [trL]
    unfold tr0
    have h2 := h1.set h0
    generalize setF 6 (clearF (zu S 67 34 (nI (E - 23)))) = s at h2 ⊢
    exact h2.up (by omega)
  | succ d ih =>
    intro hd
    have h1 := ih (by omega)
    have hk := trL_k S E n d
    have hn := trL_now (σ := S) E n d
    have hR' := trL_ok hR E n d
    rw [trL]
    generalize trL S E n d = τ at *
    have h2 := h1.ra hR' hn (by omega) n
    have hc : cE τ (E - 23 + d) n = cE S (E - 23 + d) n := by
      unfold cE
      congr 1
      funext k
      rw [zkf_st hk 102 (by simp)]
    have hR2 := raF_ok hR' n
    generalize raF τ n = ρ at *
    have h3 : TP j _ (nowF ρ) := h2.same (zu_ne _ _ _ _ (by decide) _) (fun k => zu_ne _ _ _ _ (by decide) _)
    have hR3 : RI (nowF ρ) := hR2.now _ _
    have h4 := h3.set hR3
    generalize setF 6 (nowF ρ) = s at h4 ⊢
    have h5 := cL_s S (E - 23 + d) n
    exact h4.up (by rw [hc]; rw [show E - 23 + (d + 1) = E - 23 + d + 1 by omega]; omega)
theorem trial_b {S : zS2} {n E j : Nat} (hR : RI S) (hn : n ≤ 40) (hE : E ≤ 2000) (hj : j < 5) : ∃ a, a ≤ 5760 ∧ trF S E n 97 j = nI a := by
  have h1 := TP.tr (n := n) hR hj hE (E - (E - 23)) (Nat.le_refl _)
  have hk := trL_k S E n (E - (E - 23))
  have hnw := trL_now (σ := S) E n (E - (E - 23))
  have hR' := trL_ok hR E n (E - (E - 23))
  unfold trF
  generalize trL S E n (E - (E - 23)) = τ at *
  obtain ⟨B, ⟨a, a1, a2, -⟩, b2⟩ := h1.ra hR' hnw (by omega) n
  have hc : cE τ (E - 23 + (E - (E - 23))) n = cE S (E - 23 + (E - (E - 23))) n := by
    unfold cE
    congr 1
    funext k
    rw [zkf_st hk 102 (by simp)]
  have h5 := cL_s S (E - 23 + (E - (E - 23))) n
  have h6 := cL_le S (E - 23 + (E - (E - 23)) + 1) n
  exact ⟨a, by omega, a2⟩
