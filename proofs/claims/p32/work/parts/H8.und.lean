/-! ===== undo, valueAnew and trial, asked by the law; held cells ===== -/
section ZU
variable {l : Launch} {Z : zZ} {n L : Nat} {μ : zMem} {σ : zS2} {π : zP2} {g : zG2} {S : zS2}
theorem q_undo (hZ : zSt l Z) (hO : zOps Z) (h : PW (n + 1) L μ σ π S) : zCtW l Z mL_undo hhL_undo 8 0 0 [.ref 0] (zA4 μ σ π g) (fun r μ' => r = some (.int (nI n)) ∧ ∃ μ1 σ1 π1 g1, μ' = zA4 μ1 σ1 π1 g1 ∧ PW n L μ1 σ1 π1 (rpF (zu S 67 42 (nI n)) n) ∧ zgr μ μ1 ∧ zcl σ σ1 π π1 g g1) := by
  obtain ⟨b1, b2⟩ := h.cv.back
  have ct := c_X8_undo (g := g) hZ hO h.cw h.n40 (fun b j hb => zu_ne S _ _ (nI n) hb j) (zu_nj _ _ _ _ _ (by decide)) (zu_nj _ _ _ _ _ (by decide)) (zu_nj _ _ _ _ _ (by decide)) b2
  have f := rpF_k (zu S 67 42 (nI n)) n
  have hT : TX L (rpF (zu S 67 42 (nI n)) n) := h.tx.mv ((f 67 1 (zkp_67 (by decide))).trans (zu_nj _ _ _ _ _ (by decide))) (fun i => (f 68 i (zkp_tx i)).trans (zu_ne _ _ _ _ (by decide) i))
  have h30 : ∀ k, stN (rpF (zu S 67 42 (nI n)) n) k ≤ 30 := fun k => by unfold stN; rw [f 104 k (zkp_104 k), zu_ne _ _ _ _ (by decide)]; exact h.s30 k
  refine zCtW_mono (w_undo (μ := zA4 μ σ π g) (Q := fun x μ' => x = nI n ∧ ∃ μ1 σ1 π1 g1, μ' = zA4 μ1 σ1 π1 g1 ∧ PW n L μ1 σ1 π1 (rpF (zu S 67 42 (nI n)) n) ∧ zgr μ μ1 ∧ zcl σ σ1 π π1 g g1) hZ h.cw.k0 (zCt_mono ct (fun r μ' q => ?_))) (fun r μ' q => ?_)
  · obtain ⟨q1, μ1, σ1, π1, g1, q2, q3, q4, q5⟩ := q
    exact ⟨_, q1, rfl, μ1, σ1, π1, g1, q2, ⟨b1, hT, h30, q3⟩, q4, q5⟩
  · obtain ⟨x, rfl, rfl, e⟩ := q
    exact ⟨rfl, e⟩
theorem q_anew (hZ : zSt l Z) (hO : zOps Z) (h : PW n L μ σ π S) {c : Nat} (hc : c < 12) : zCtW l Z mL_anew hhL_anew 8 0 0 [.ref 0, .int (nI c)] (zA4 μ σ π g) (fun r μ' => r = some (.int (S 88 c)) ∧ ∃ μ1 σ1 π1 g1, μ' = zA4 μ1 σ1 π1 g1 ∧ PW n L μ1 σ1 π1 S ∧ zgr μ μ1 ∧ zcl σ σ1 π π1 g g1) := by
  refine zCtW_mono (w_anew (μ := zA4 μ σ π g) (Q := fun x μ' => x = S 88 c ∧ ∃ μ1 σ1 π1 g1, μ' = zA4 μ1 σ1 π1 g1 ∧ PW n L μ1 σ1 π1 S ∧ zgr μ μ1 ∧ zcl σ σ1 π π1 g g1) hZ h.cw.k0 (zCt_mono (c_X8_valueAnew (g := g) hZ hO h.cw h.cv hc) (fun r μ' q => ?_))) (fun r μ' q => ?_)
  · obtain ⟨q1, μ1, σ1, π1, g1, q2, q3, q4, q5⟩ := q
    exact ⟨_, q1, rfl, μ1, σ1, π1, g1, q2, h.to q3, q4, q5⟩
  · obtain ⟨x, rfl, rfl, e⟩ := q
    exact ⟨rfl, e⟩
theorem q_trial (hZ : zSt l Z) (hO : zOps Z) (h : PW n L μ σ π S) {c : Nat} (hc : c < 5) : zCtW l Z mL_trial hhL_trial 8 0 0 [.ref 0, .int (nI c)] (zA4 μ σ π g) (fun r μ' => (∃ a, a ≤ 5760 ∧ r = some (.int (nI a))) ∧ ∃ μ1 σ1 π1 g1, μ' = zA4 μ1 σ1 π1 g1 ∧ PW n L μ1 σ1 π1 S ∧ zgr μ μ1 ∧ zcl σ σ1 π π1 g g1) := by
  obtain ⟨E, e1, e2⟩ := h.cv.now
  obtain ⟨a, a1, a2⟩ := trial_b (n := n) (E := E) h.ri h.n40 e1 hc
  refine zCtW_mono (w_trial (μ := zA4 μ σ π g) (Q := fun x μ' => (∃ a, a ≤ 5760 ∧ x = nI a) ∧ ∃ μ1 σ1 π1 g1, μ' = zA4 μ1 σ1 π1 g1 ∧ PW n L μ1 σ1 π1 S ∧ zgr μ μ1 ∧ zcl σ σ1 π π1 g g1) hZ h.cw.k0 (zCt_mono (c_X8_trial (g := g) hZ hO h.cw h.cv e2 e1 hc) (fun r μ' q => ?_))) (fun r μ' q => ?_)
  · obtain ⟨q1, μ1, σ1, π1, g1, q2, q3, q4, q5⟩ := q
    rw [a2] at q1
    exact ⟨_, q1, ⟨a, a1, rfl⟩, μ1, σ1, π1, g1, q2, h.to q3, q4, q5⟩
  · obtain ⟨x, rfl, ⟨a, a1, rfl⟩, e⟩ := q
    exact ⟨⟨a, a1, rfl⟩, e⟩
end ZU
/-! which cells are held behind a step -/
theorem setF_80 (f : Nat) (S : zS2) (j : Nat) : (setF f S).1 80 j = S 80 j := (setF_v f S).at 80 (by decide) j
theorem tickF_80 (S : zS2) (n j : Nat) : (tickF S n).1 80 j = S 80 j := by
  induction n with
  | zero => rfl
  | succ n ih =>
    rw [tickF]
    dsimp only
    rw [setF_80]
    exact (zu_ne _ _ _ _ (by decide) _).trans ih
theorem chgF_80 (S : zS2) {st : Nat} (hv : stepV S st) (h10 : S 98 st ≠ 10) (j : Nat) : chgF S st 80 j = if S 98 st = 1 ∧ j = stC S st then 1 else if S 98 st = 2 ∧ j = stC S st then 0 else S 80 j := by
  obtain ⟨k, k1, k2, k3, k4, k5, k6⟩ := stepV_kind hv
  have hk9 : k ≤ 9 := by
    rcases Nat.lt_or_ge k 10 with z | z
    · omega
    · have : k = 10 := by omega
      subst this
      exact absurd k2 (fun z => h10 z)
  have e1 : S 98 st = 1 ↔ k = 1 := by rw [k2]; exact nI_eq (b := 1) (by omega) (by decide)
  have e2 : S 98 st = 2 ↔ k = 2 := by rw [k2]; exact nI_eq (b := 2) (by omega) (by decide)
  have e0 : S 98 st = 0 ↔ k = 0 := by rw [k2]; exact nI_eq (b := 0) (by omega) (by decide)
  rw [chgF_kd hk9 k2]
  simp only [e1, e2]
  by_cases q2 : k ≤ 2
  · rw [if_pos q2]
    unfold setCF
    simp only [e0, e1]
    by_cases z0 : k = 0
    · rw [if_pos z0, if_neg (fun z => by omega), if_neg (fun z => by omega), giveF_row _ _ _ _ (by decide) (by decide)]
      simp [gvP]
    · rw [if_neg z0]
      by_cases z1 : k = 1
      · rw [if_pos z1, becomeF_ne _ _ _ (by decide) (by decide), zu_ne _ _ _ _ (by decide), zu_ne _ _ _ _ (by decide)]
        by_cases q : j = stC S st
        · rw [if_pos ⟨z1, q⟩, q, zu_eq]
        · rw [if_neg (fun z => q z.2), if_neg (fun z => q z.2), zu_nj _ _ _ _ _ q]
      · rw [if_neg z1, if_neg (fun z => z1 z.1), zu_ne _ _ _ _ (by decide)]
        by_cases q : j = stC S st
        · rw [if_pos ⟨by omega, q⟩, q, zu_eq]
        · rw [if_neg (fun z => q z.2), zu_nj _ _ _ _ _ q]
  · rw [if_neg q2, if_neg (fun z : k = 1 ∧ j = stC S st => q2 (by omega)), if_neg (fun z : k = 2 ∧ j = stC S st => q2 (by omega))]
    by_cases q3 : k = 3
    · rw [if_pos q3]
      exact readF_ne _ _ _ (b := 80) (by decide) _
    · rw [if_neg q3]
      unfold setSF
      split <;> simp [zu]
theorem do_80 {n : Nat} {S : zS2} {w a b c : Int32} (h : KS n S w a b c) (j : Nat) : (doF (kpS S n w a b c) n).1 80 j = if w = 1 ∧ j = a.toNatClampNeg then 1 else if w = 2 ∧ j = a.toNatClampNeg then 0 else S 80 j := by
  have k := kp_at S n w a b c
  have e : stC (kpS S n w a b c) n = a.toNatClampNeg := by unfold stC; rw [k.2.1]
  have e8 : kpS S n w a b c 80 j = S 80 j := kp_ne _ _ _ _ _ _ (by decide) j
  unfold doF
  rw [k.1]
  by_cases q : w = 10
  · rw [if_pos q, tickF_80, e8, if_neg (fun z => absurd (q.symm.trans z.1) (by decide)), if_neg (fun z => absurd (q.symm.trans z.1) (by decide))]
  · rw [if_neg q, setF_80, chgF_80 _ h.1 (by rw [k.1]; exact q), k.1, e, e8]
/-- the law's own mask of the held cells -/
theorem held_or (m : Int32) {q c : Nat} (hq : q < 32) (hc : c < 32) : bt (m ||| ((1 : Int32) <<< (nI q &&& 31))) c = (bt m c || decide (c = q)) := by
  rw [b_or, b_one q hq hc]
theorem held_and (m : Int32) {q c : Nat} (hq : q < 32) (hc : c < 32) : bt (m &&& (((1 : Int32) <<< (nI q &&& 31)) ^^^ (-1))) c = (bt m c && !decide (c = q)) := by
  have h1 : bt (-1) c = true := by
    have : ∀ i, i < 32 → bt (-1) i = true := by decide +kernel
    exact this c hc
  have hx : bt (((1 : Int32) <<< (nI q &&& 31)) ^^^ (-1)) c = (bt ((1 : Int32) <<< (nI q &&& 31)) c ^^ bt (-1) c) := by
    unfold bt
    rw [Int32.toBitVec_xor, BitVec.getLsbD_xor]
  rw [b_and, hx, h1, b_one q hq hc, Bool.xor_true]
