
/-- what steps, texts and counts of steps are: nothing of it changes when steps are done -/
def zkp (b j : Nat) : Prop := (b ≠ 88 ∧ b ≠ 89 ∧ b ≠ 92 ∧ b ≠ 93 ∧ b ≠ 94 ∧ b ≠ 95 ∧ b ≠ 96 ∧ b ≠ 97 ∧ b ≠ 74 ∧ b ≠ 75 ∧ b ≠ 76 ∧ b ≠ 77 ∧ b ≠ 78 ∧ b ≠ 79 ∧ b ≠ 80 ∧ b ≠ 81 ∧ b ≠ 82 ∧ b ≠ 83 ∧ b ≠ 84 ∧ b ≠ 85 ∧ b ≠ 86 ∧ b ≠ 87 ∧ b ≠ 90 ∧ b ≠ 91) ∧ ¬ (b = 67 ∧ j = 33) ∧ ¬ (b = 67 ∧ j = 34) ∧ ¬ (b = 67 ∧ j = 44)
def zkf (σ σ' : Nat → Nat → Int32) : Prop := ∀ b j, zkp b j → σ' b j = σ b j
theorem zkf_refl (σ : Nat → Nat → Int32) : zkf σ σ := fun _ _ _ => rfl
theorem zkf_trans {a b c : Nat → Nat → Int32} (h1 : zkf a b) (h2 : zkf b c) : zkf a c := fun x j p => (h2 x j p).trans (h1 x j p)
theorem soilF_k (σ : Nat → Nat → Int32) (ra w : Nat) : zkf σ (soilF σ ra w) := by
  intro b j h
  obtain ⟨⟨h_value, h_isDirty, h_state, h_since, h_waits, h_load, h_told, h_starts, h_code, h_codeLength, h_readsCells, h_readsReadings, h_readsLoads, h_depth, h_isHeld, h_heldAt, h_control, h_limit, h_needs, h_demand, h_delay, h_lie, h_reading, h_toldAt⟩, hw, hn, ht⟩ := h
  unfold soilF soilP
  simp [zu, h_value, h_isDirty, h_state, h_since, h_waits, h_load, h_told, h_starts, h_code, h_codeLength, h_readsCells, h_readsReadings, h_readsLoads, h_depth, h_isHeld, h_heldAt, h_control, h_limit, h_needs, h_demand, h_delay, h_lie, h_reading, h_toldAt, hw, hn, ht]
theorem becomeF_k (σ : Nat → Nat → Int32) (c : Nat) (v : Int32) : zkf σ (becomeF σ c v) := by
  intro b j h
  unfold becomeF
  split
  · rfl
  · rw [soilF_k _ _ _ b j h]
    simp [zu, h.1.1]
theorem tellF_k (σ : Nat → Nat → Int32) (c : Nat) (v : Int32) : zkf σ (tellF σ c v) := by
  intro b j h
  rw [tellF_ne _ _ _ h.1.2.2.2.2.2.2.1 h.1.2.1]
theorem wkS_k (σ : Nat → Nat → Int32) (c : Nat) : zkf σ (wkS σ c) := by
  intro b j h
  unfold wkS
  rw [becomeF_k _ _ _ b j h]
  obtain ⟨⟨h_value, h_isDirty, h_state, h_since, h_waits, h_load, h_told, h_starts, h_code, h_codeLength, h_readsCells, h_readsReadings, h_readsLoads, h_depth, h_isHeld, h_heldAt, h_control, h_limit, h_needs, h_demand, h_delay, h_lie, h_reading, h_toldAt⟩, hw, hn, ht⟩ := h
  simp [zu, h_value, h_isDirty, h_state, h_since, h_waits, h_load, h_told, h_starts, h_code, h_codeLength, h_readsCells, h_readsReadings, h_readsLoads, h_depth, h_isHeld, h_heldAt, h_control, h_limit, h_needs, h_demand, h_delay, h_lie, h_reading, h_toldAt, hw, hn, ht]
theorem wkI_k (n : Nat) : ∀ σ : Nat → Nat → Int32, zkf σ (wkI σ n) := by
  induction n with
  | zero => exact fun σ => zkf_refl σ
  | succ n ih =>
    intro σ
    unfold wkI
    split
    · exact zkf_refl σ
    · exact zkf_trans (wkS_k σ _) (ih _)
theorem changeF_k (σ : Nat → Nat → Int32) (k : Nat) : zkf σ (changeF σ k) := by
  intro b j h
  obtain ⟨⟨h_value, h_isDirty, h_state, h_since, h_waits, h_load, h_told, h_starts, h_code, h_codeLength, h_readsCells, h_readsReadings, h_readsLoads, h_depth, h_isHeld, h_heldAt, h_control, h_limit, h_needs, h_demand, h_delay, h_lie, h_reading, h_toldAt⟩, hw, hn, ht⟩ := h
  unfold changeF runF
  repeat' split
  all_goals simp [zu, h_value, h_isDirty, h_state, h_since, h_waits, h_load, h_told, h_starts, h_code, h_codeLength, h_readsCells, h_readsReadings, h_readsLoads, h_depth, h_isHeld, h_heldAt, h_control, h_limit, h_needs, h_demand, h_delay, h_lie, h_reading, h_toldAt, hw, hn, ht]
theorem rdS_k (σ : Nat → Nat → Int32) (k : Nat) : zkf σ (rdS σ k) := by
  intro b j h
  unfold rdS rdL
  rw [tellF_k _ _ _ b j h]
  have h1 : rdC σ k b j = σ b j := by
    unfold rdC
    split
    · rfl
    · exact changeF_k σ k b j h
  simp only [zu, h.1.2.2.2.2.2.1, false_and, if_false, h1]
theorem rdP_k (σ : Nat → Nat → Int32) (n : Nat) : zkf σ (rdP σ n) := by
  induction n with
  | zero => exact zkf_refl σ
  | succ n ih => exact zkf_trans ih (rdS_k _ n)
theorem roundF_k (σ : Nat → Nat → Int32) : zkf σ (roundF σ) := zkf_trans (wkI_k 12 σ) (rdP_k _ 5)
theorem cutF_k (σ : Nat → Nat → Int32) (k : Nat) : zkf σ (cutF σ k) := by
  intro b j h
  unfold cutF
  rw [tellF_k _ _ _ b j h]
  simp [zu, h.1.2.2.1, h.1.2.2.2.2.2.1]
theorem blkF_k : ∀ (r : Nat) (σ : Nat → Nat → Int32) (late : Int32), zkf σ (blkF r σ late).1 := by
  intro r
  induction r with
  | zero => exact fun σ late => zkf_refl σ
  | succ r ih =>
    intro σ late
    by_cases hm : maskF σ = 0
    · rw [blkF_0 late hm]
      dsimp only
      exact roundF_k σ
    · rw [blkF_1 late hm]
      dsimp only
      exact zkf_trans (roundF_k σ) (ih _ _)
theorem setF_k : ∀ (f : Nat) (σ : Nat → Nat → Int32), zkf σ (setF f σ).1 := by
  intro f
  induction f with
  | zero => exact fun σ => zkf_refl σ
  | succ f ih =>
    intro σ
    rw [setF]
    split
    · exact blkF_k 40 σ 0
    · exact zkf_trans (zkf_trans (blkF_k 40 σ 0) (cutF_k _ _)) (ih _)
theorem readF0_k (σ : Nat → Nat → Int32) (w : Nat) (v : Int32) : zkf σ (zu (zu σ 91 w (σ 67 34)) 90 w v) := by
  intro b j h
  obtain ⟨⟨h_value, h_isDirty, h_state, h_since, h_waits, h_load, h_told, h_starts, h_code, h_codeLength, h_readsCells, h_readsReadings, h_readsLoads, h_depth, h_isHeld, h_heldAt, h_control, h_limit, h_needs, h_demand, h_delay, h_lie, h_reading, h_toldAt⟩, hw, hn, ht⟩ := h
  simp [zu, h_value, h_isDirty, h_state, h_since, h_waits, h_load, h_told, h_starts, h_code, h_codeLength, h_readsCells, h_readsReadings, h_readsLoads, h_depth, h_isHeld, h_heldAt, h_control, h_limit, h_needs, h_demand, h_delay, h_lie, h_reading, h_toldAt, hw, hn, ht]
theorem readF_k (σ : Nat → Nat → Int32) (w : Nat) (v : Int32) : zkf σ (readF σ w v) := by
  intro b j h
  unfold readF
  split
  · obtain ⟨⟨h_value, h_isDirty, h_state, h_since, h_waits, h_load, h_told, h_starts, h_code, h_codeLength, h_readsCells, h_readsReadings, h_readsLoads, h_depth, h_isHeld, h_heldAt, h_control, h_limit, h_needs, h_demand, h_delay, h_lie, h_reading, h_toldAt⟩, hw, hn, ht⟩ := h
    simp [zu, h_toldAt]
  · rw [soilF_k _ _ _ b j h]
    exact readF0_k σ w v b j h
theorem giveF_k (σ : Nat → Nat → Int32) (c st n : Nat) : zkf σ (giveF σ c st n) := by
  intro b j h
  obtain ⟨⟨h_value, h_isDirty, h_state, h_since, h_waits, h_load, h_told, h_starts, h_code, h_codeLength, h_readsCells, h_readsReadings, h_readsLoads, h_depth, h_isHeld, h_heldAt, h_control, h_limit, h_needs, h_demand, h_delay, h_lie, h_reading, h_toldAt⟩, hw, hn, ht⟩ := h
  unfold giveF
  simp only [zu, h_isDirty, false_and, if_false]
  rw [dpR_ne _ _ h_depth]
  simp [dzP, h_depth, gvP_ne, h_code, h_codeLength, h_readsCells, h_readsReadings, h_readsLoads]
theorem setCF_k (σ : Nat → Nat → Int32) (c st n : Nat) : zkf σ (setCF σ c st n) := by
  intro b j h
  unfold setCF
  split
  · exact giveF_k σ c st n b j h
  · split
    · rw [becomeF_k _ _ _ b j h]
      obtain ⟨⟨h_value, h_isDirty, h_state, h_since, h_waits, h_load, h_told, h_starts, h_code, h_codeLength, h_readsCells, h_readsReadings, h_readsLoads, h_depth, h_isHeld, h_heldAt, h_control, h_limit, h_needs, h_demand, h_delay, h_lie, h_reading, h_toldAt⟩, hw, hn, ht⟩ := h
      simp [zu, h_value, h_isDirty, h_state, h_since, h_waits, h_load, h_told, h_starts, h_code, h_codeLength, h_readsCells, h_readsReadings, h_readsLoads, h_depth, h_isHeld, h_heldAt, h_control, h_limit, h_needs, h_demand, h_delay, h_lie, h_reading, h_toldAt, hw, hn, ht]
    · obtain ⟨⟨h_value, h_isDirty, h_state, h_since, h_waits, h_load, h_told, h_starts, h_code, h_codeLength, h_readsCells, h_readsReadings, h_readsLoads, h_depth, h_isHeld, h_heldAt, h_control, h_limit, h_needs, h_demand, h_delay, h_lie, h_reading, h_toldAt⟩, hw, hn, ht⟩ := h
      simp [zu, h_value, h_isDirty, h_state, h_since, h_waits, h_load, h_told, h_starts, h_code, h_codeLength, h_readsCells, h_readsReadings, h_readsLoads, h_depth, h_isHeld, h_heldAt, h_control, h_limit, h_needs, h_demand, h_delay, h_lie, h_reading, h_toldAt, hw, hn, ht]
theorem setSF_k (σ : Nat → Nat → Int32) (s st : Nat) : zkf σ (setSF σ s st) := by
  intro b j h
  obtain ⟨⟨h_value, h_isDirty, h_state, h_since, h_waits, h_load, h_told, h_starts, h_code, h_codeLength, h_readsCells, h_readsReadings, h_readsLoads, h_depth, h_isHeld, h_heldAt, h_control, h_limit, h_needs, h_demand, h_delay, h_lie, h_reading, h_toldAt⟩, hw, hn, ht⟩ := h
  unfold setSF
  split <;> simp [zu, h_value, h_isDirty, h_state, h_since, h_waits, h_load, h_told, h_starts, h_code, h_codeLength, h_readsCells, h_readsReadings, h_readsLoads, h_depth, h_isHeld, h_heldAt, h_control, h_limit, h_needs, h_demand, h_delay, h_lie, h_reading, h_toldAt, hw, hn, ht]
theorem clearF_k (σ : Nat → Nat → Int32) : zkf σ (clearF σ) := by
  intro b j h
  obtain ⟨⟨h_value, h_isDirty, h_state, h_since, h_waits, h_load, h_told, h_starts, h_code, h_codeLength, h_readsCells, h_readsReadings, h_readsLoads, h_depth, h_isHeld, h_heldAt, h_control, h_limit, h_needs, h_demand, h_delay, h_lie, h_reading, h_toldAt⟩, hw, hn, ht⟩ := h
  simp [clearF, clS, clP, zu, h_value, h_isDirty, h_state, h_since, h_waits, h_load, h_told, h_starts, h_code, h_codeLength, h_readsCells, h_readsReadings, h_readsLoads, h_depth, h_isHeld, h_heldAt, h_control, h_limit, h_needs, h_demand, h_delay, h_lie, h_reading, h_toldAt, hw, hn, ht]
theorem beginF_k (σ : Nat → Nat → Int32) : zkf σ (beginF σ) := by
  intro b j h
  obtain ⟨⟨h_value, h_isDirty, h_state, h_since, h_waits, h_load, h_told, h_starts, h_code, h_codeLength, h_readsCells, h_readsReadings, h_readsLoads, h_depth, h_isHeld, h_heldAt, h_control, h_limit, h_needs, h_demand, h_delay, h_lie, h_reading, h_toldAt⟩, hw, hn, ht⟩ := h
  simp [beginF, beD, beS, beP, clearF, clS, clP, zu, h_value, h_isDirty, h_state, h_since, h_waits, h_load, h_told, h_starts, h_code, h_codeLength, h_readsCells, h_readsReadings, h_readsLoads, h_depth, h_isHeld, h_heldAt, h_control, h_limit, h_needs, h_demand, h_delay, h_lie, h_reading, h_toldAt, hw, hn, ht]
def stC (σ : Nat → Nat → Int32) (st : Nat) : Nat := (σ 99 st).toNatClampNeg
def stN (σ : Nat → Nat → Int32) (st : Nat) : Nat := (σ 104 st).toNatClampNeg
/-- what a step changes, ahead of the rounds -/
def chgF (σ : Nat → Nat → Int32) (st : Nat) : Nat → Nat → Int32 :=
  if σ 98 st ≤ 2 then setCF σ (stC σ st) st (stN σ st) else if σ 98 st = 3 then readF σ (stC σ st) (σ 100 st) else setSF σ (stC σ st) st
theorem chgF_k (σ : Nat → Nat → Int32) (st : Nat) : zkf σ (chgF σ st) := by
  unfold chgF
  split
  · exact setCF_k _ _ _ _
  · split
    · exact readF_k _ _ _
    · exact setSF_k _ _ _
def nowF (σ : Nat → Nat → Int32) : Nat → Nat → Int32 := zu σ 67 34 (σ 67 34 + 1)
theorem nowF_k (σ : Nat → Nat → Int32) : zkf σ (nowF σ) := by
  intro b j h
  simp only [nowF, zu, h.2.2.1, if_false]
def tickF (σ : Nat → Nat → Int32) : Nat → (Nat → Nat → Int32) × Nat
  | 0 => (σ, 0)
  | n + 1 => ((setF 6 (nowF (tickF σ n).1)).1, (tickF σ n).2 + (setF 6 (nowF (tickF σ n).1)).2)
theorem tickF_k (σ : Nat → Nat → Int32) (n : Nat) : zkf σ (tickF σ n).1 := by
  induction n with
  | zero => exact zkf_refl σ
  | succ n ih => exact zkf_trans ih (zkf_trans (nowF_k _) (setF_k 6 _))
def doF (σ : Nat → Nat → Int32) (st : Nat) : (Nat → Nat → Int32) × Nat := if σ 98 st = 10 then tickF σ (stC σ st) else setF 6 (chgF σ st)
theorem doF_k (σ : Nat → Nat → Int32) (st : Nat) : zkf σ (doF σ st).1 := by
  unfold doF
  split
  · exact tickF_k _ _
  · exact zkf_trans (chgF_k σ st) (setF_k 6 _)
def stepV (σ : Nat → Nat → Int32) (st : Nat) : Prop :=
  ((σ 98 st = 0 ∨ σ 98 st = 1 ∨ σ 98 st = 2) ∧ stC σ st < 12 ∧ σ 99 st = nI (stC σ st) ∧ (σ 98 st = 0 → stN σ st ≤ 30 ∧ σ 104 st = nI (stN σ st))) ∨
  (σ 98 st = 3 ∧ stC σ st < 5 ∧ σ 99 st = nI (stC σ st)) ∨
  ((∃ k, 4 ≤ k ∧ k ≤ 9 ∧ σ 98 st = nI k) ∧ stC σ st < 5 ∧ σ 99 st = nI (stC σ st)) ∨
  (σ 98 st = 10 ∧ stC σ st ≤ 50 ∧ σ 99 st = nI (stC σ st))
theorem RI.now {σ : Nat → Nat → Int32} (h : RI σ) (v : Int32) (i : Nat) : RI (zu σ 67 i v) := h.mv (fun b j h1 h2 h3 _ _ _ _ _ _ => by simp [zu, h3]) (fun k hk hs => by
  simp only [zu, show ¬ (92 : Nat) = 67 by decide, show ¬ (95 : Nat) = 67 by decide, show ¬ (96 : Nat) = 67 by decide, false_and, if_false] at hs ⊢
  exact h.2.2.2 k hk hs)
theorem tickF_ok {σ : Nat → Nat → Int32} (h : RI σ) (n : Nat) : RI (tickF σ n).1 := by
  induction n with
  | zero => exact h
  | succ n ih => exact setF_ok 6 _ (ih.now _ _)
theorem doF_ok {σ : Nat → Nat → Int32} (h : RI σ) {st : Nat} (hc : σ 98 st ≠ 10 → RI (chgF σ st)) : RI (doF σ st).1 := by
  unfold doF
  split
  · exact tickF_ok h _
  · rename_i q
    exact setF_ok 6 _ (hc q)
/-- a new step -/
def kpS (σ : Nat → Nat → Int32) (n : Nat) (w a b c : Int32) : Nat → Nat → Int32 := zu (zu (zu (zu (zu (zu σ 98 n w) 99 n a) 100 n b) 101 n c) 102 n (σ 67 34)) 67 42 (nI (n + 1))
theorem RI.kp {σ : Nat → Nat → Int32} (h : RI σ) (n : Nat) (w a b c : Int32) : RI (kpS σ n w a b c) := by
  unfold kpS
  refine RI.now ?_ _ _
  have main : ∀ {σ : Nat → Nat → Int32}, RI σ → ∀ (x : Nat), (x = 98 ∨ x = 99 ∨ x = 100 ∨ x = 101 ∨ x = 102) → ∀ i v, RI (zu σ x i v) := by
    intro σ h x hx i v
    have e : ∀ b, (b = 74 ∨ b = 75 ∨ b = 76 ∨ b = 79 ∨ b = 82 ∨ b = 83 ∨ b = 92 ∨ b = 95 ∨ b = 96) → ∀ j, zu σ x i v b j = σ b j := by
      intro b hb j
      have : b ≠ x := by rcases hx with rfl | rfl | rfl | rfl | rfl <;> rcases hb with rfl | rfl | rfl | rfl | rfl | rfl | rfl | rfl | rfl <;> decide
      exact zu_ne _ _ _ _ this j
    refine ⟨fun c hc => WFc_mv (h.1 c hc) (e _ (by simp)) (e _ (by simp)), ?_, fun s hs => ?_, fun k hk hs => ?_⟩
    · intro k j hk hj hb
      rw [e _ (by simp)] at hb
      rw [e _ (by simp), e _ (by simp)]
      exact h.2.1 k j hk hj hb
    · rw [e _ (by simp), e _ (by simp)]
      exact h.2.2.1 s hs
    · rw [e _ (by simp)] at hs
      rw [e _ (by simp), e _ (by simp)]
      exact h.2.2.2 k hk hs
  exact main (main (main (main (main h _ (by simp) _ _) _ (by simp) _ _) _ (by simp) _ _) _ (by simp) _ _) _ (by simp) _ _
def rpF (σ : Nat → Nat → Int32) : Nat → Nat → Nat → Int32
  | 0 => beginF σ
  | k + 1 => (doF (rpF σ k) k).1
theorem rpF_k (σ : Nat → Nat → Int32) (n : Nat) : zkf σ (rpF σ n) := by
  induction n with
  | zero => exact beginF_k σ
  | succ n ih => exact zkf_trans ih (doF_k _ n)
theorem zkf_st {σ σ' : Nat → Nat → Int32} (h : zkf σ σ') (b : Nat) (hb : b = 98 ∨ b = 99 ∨ b = 100 ∨ b = 101 ∨ b = 102 ∨ b = 103 ∨ b = 104) (j : Nat) : σ' b j = σ b j := by
  apply h
  rcases hb with rfl | rfl | rfl | rfl | rfl | rfl | rfl <;> exact ⟨by decide, fun q => absurd q.1 (by decide), fun q => absurd q.1 (by decide), fun q => absurd q.1 (by decide)⟩
theorem zkf_m {σ σ' : Nat → Nat → Int32} (h : zkf σ σ') (j : Nat) (hj : j ≠ 33 ∧ j ≠ 34 ∧ j ≠ 44) : σ' 67 j = σ 67 j :=
  h _ _ ⟨by decide, fun q => hj.1 q.2, fun q => hj.2.1 q.2, fun q => hj.2.2 q.2⟩
theorem stepV_mv {σ σ' : Nat → Nat → Int32} (h : zkf σ σ') {st : Nat} (hv : stepV σ st) : stepV σ' st := by
  unfold stepV stC stN at *
  rw [zkf_st h 98 (by simp), zkf_st h 99 (by simp), zkf_st h 104 (by simp)]
  exact hv

