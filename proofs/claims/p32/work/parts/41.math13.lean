
/-- the tokens of a step -/
def stw (σ : Nat → Nat → Int32) (st : Nat) : Nat → Nat := fun k => (σ 103 (30 * st + k)).toNatClampNeg
def WFs (σ : Nat → Nat → Int32) (st N : Nat) : Prop := WF (stw σ st) N ∧ σ 104 st = nI N ∧ ∀ k, k < N → σ 103 (30 * st + k) = nI (stw σ st k)
theorem gvP_wf {σ : Nat → Nat → Int32} {c st N : Nat} (h : ∀ d, d < 12 → WFc σ d) (hs : WFs σ st N) : ∀ d, d < 12 → WFc (gvP σ c st N) d := by
  intro d hd
  have h30 : N ≤ 30 := hs.1.1
  by_cases e : d = c
  · subst e
    have en : cdn (gvP σ d st N) d = N := by simp [cdn, gvP, hs.2.1, nI_clamp (show N < 2147483648 by omega)]
    have ew : ∀ k, k < N → gvP σ d st N 74 (30 * d + k) = σ 103 (30 * st + k) := fun k hk => by
      have q : 30 * d ≤ 30 * d + k ∧ 30 * d + k < 30 * d + N := ⟨by omega, by omega⟩
      simp only [gvP, true_and, q, and_self, if_true]
      rw [show 30 * d + k - 30 * d = k by omega]
    have ec : ∀ k, k < N → cdw (gvP σ d st N) d k = stw σ st k := fun k hk => by unfold cdw stw; rw [ew k hk]
    unfold WFc
    rw [en]
    refine ⟨WF_eq ec hs.1, ?_, fun k hk => ?_⟩
    · simp [gvP, hs.2.1]
    · rw [ew k hk, ec k hk]
      exact hs.2.2 k hk
  · have en : cdn (gvP σ c st N) d = cdn σ d := by simp [cdn, gvP, e]
    obtain ⟨w1, w2, w3⟩ := h d hd
    have hle : cdn σ d ≤ 30 := w1.1
    have ew : ∀ k, k < cdn σ d → gvP σ c st N 74 (30 * d + k) = σ 74 (30 * d + k) := fun k hk => by
      have q : ¬ (30 * c ≤ 30 * d + k ∧ 30 * d + k < 30 * c + N) := by omega
      simp only [gvP, true_and, q, if_false, show ¬ (74 : Nat) = 75 by decide, show ¬ (74 : Nat) = 76 by decide, show ¬ (74 : Nat) = 77 by decide, show ¬ (74 : Nat) = 78 by decide, false_and]
    have ec : ∀ k, k < cdn σ d → cdw (gvP σ c st N) d k = cdw σ d k := fun k hk => by unfold cdw; rw [ew k hk]
    unfold WFc
    rw [en]
    refine ⟨WF_eq ec w1, ?_, fun k hk => ?_⟩
    · simp only [gvP, show ¬ (75 : Nat) = 74 by decide, show ¬ (75 : Nat) = 76 by decide, show ¬ (75 : Nat) = 77 by decide, show ¬ (75 : Nat) = 78 by decide, false_and, if_false, e, and_false]
      exact w2
    · rw [ew k hk, ec k hk]
      exact w3 k hk
/-- ranks where a cell reads what doesn't hang on it -/
theorem give_rank {σ : Nat → Nat → Int32} (h : DepthOK σ) {c : Nat} (hc : c < 12) {R : Int32} (hn : bt (belF σ false R) c = false) {S : Nat → Nat → Int32} (hS : ∀ k, k < 12 → S 76 k = if k = c then R else σ 76 k) :
    ∃ ρ : Nat → Nat, (∀ k, k < 12 → ρ k ≤ 11) ∧ ∀ k j, k < 12 → j < 12 → bt (S 76 k) j = true → ρ j < ρ k := by
  obtain ⟨f, hf⟩ : ∃ f : Nat → Int, f = fun k => (σ 79 k).toInt := ⟨_, rfl⟩
  have hf1 : ∀ k j, k < 12 → j < 12 → bt (σ 76 k) j = true → rnk f j < rnk f k := fun k j hk hj hb => rnk_lt hj (by rw [hf]; exact Int32.lt_iff_toInt_lt.mp (h k j hk hj hb))
  obtain ⟨g, hg⟩ : ∃ g : Nat → Int, g = fun k => if bt (belF σ false R) k = true then ((rnk f k : Nat) : Int) else ((rnk f k : Nat) : Int) + 12 := ⟨_, rfl⟩
  refine ⟨rnk g, fun k hk => rnk_11 g hk, fun k j hk hj hb => rnk_lt hj ?_⟩
  rw [hS k hk] at hb
  have bj := rnk_11 f hj
  have bk := rnk_11 f hk
  subst hg
  by_cases e : k = c
  · subst e
    rw [if_pos rfl] at hb
    have h1 : bt (belF σ false R) j = true := belF_up σ false R hb
    simp only [h1, if_true, hn, Bool.false_eq_true, if_false]
    omega
  · rw [if_neg e] at hb
    have h1 := hf1 k j hk hj hb
    by_cases q : bt (belF σ false R) k = true
    · have h2 : bt (belF σ false R) j = true := belF_clos σ false R k j hk hj q rfl hb
      simp only [q, h2, if_true]
      omega
    · simp only [q, Bool.false_eq_true, if_false]
      split <;> omega
theorem giveF_ok {σ : Nat → Nat → Int32} (h : RI σ) {c st N : Nat} (hc : c < 12) (hs : WFs σ st N) (hn : bt (belF σ false (maskP σ st 20000 20999 N)) c = false) :
    RI (giveF σ c st N) ∧ (∀ k, k < 12 → ∃ d, giveF σ c st N 79 k = nI d ∧ d ≤ 11) := by
  obtain ⟨S, hS⟩ : ∃ S, S = dzP (gvP σ c st N) 12 := ⟨_, rfl⟩
  have h76 : ∀ k, S 76 k = if k = c then maskP σ st 20000 20999 N else σ 76 k := fun k => by
    subst hS
    simp [dzP, gvP]
  obtain ⟨ρ, r1, r2⟩ := give_rank h.2.1 hc hn (fun k _ => h76 k)
  obtain ⟨d1, d2, d3⟩ := dpR_fix r1 r2 (fun j hj => ⟨0, by subst hS; simp [dzP, hj]; rfl, Nat.zero_le _⟩)
  have eg : giveF σ c st N = zu (dpR S 12) 89 c (if dpR S 12 80 c = 0 then 1 else 0) := by subst hS; rfl
  have ew : ∀ b, b ≠ 89 → ∀ j, giveF σ c st N b j = dpR S 12 b j := fun b hb j => by rw [eg]; exact zu_ne _ _ _ _ hb j
  have ev : ∀ b, b ≠ 89 → b ≠ 79 → ∀ j, giveF σ c st N b j = gvP σ c st N b j := fun b hb h79 j => by
    rw [ew b hb, dpR_rd _ _ h79]; subst hS; simp [dzP, h79]
  have eo : ∀ b, b ∉ [89, 79, 74, 75, 76, 77, 78] → ∀ j, giveF σ c st N b j = σ b j := fun b hb j => by
    simp only [List.mem_cons, List.not_mem_nil, or_false, not_or] at hb
    rw [ev b hb.1 hb.2.1]
    exact gvP_ne σ c st N j hb.2.2.1 hb.2.2.2.1 hb.2.2.2.2.1 hb.2.2.2.2.2.1 hb.2.2.2.2.2.2
  refine ⟨⟨fun d hd => WFc_mv (gvP_wf h.1 hs d hd) (ev _ (by decide) (by decide)) (ev _ (by decide) (by decide)), fun k j hk hj hb => ?_, fun s hs => ?_, fun k hk h3 => ?_⟩, fun k hk => ?_⟩
  · rw [ew _ (by decide)] at hb
    rw [ew _ (by decide), ew _ (by decide)]
    exact d1 k j hk hj hb
  · rw [eo _ (by decide), eo _ (by decide)]
    exact h.2.2.1 s hs
  · rw [eo _ (by decide)] at h3
    rw [eo _ (by decide), eo _ (by decide)]
    exact h.2.2.2 k hk h3
  · rw [ew _ (by decide)]
    exact d2 k hk

