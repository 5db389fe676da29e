
/-- the invariant, but for the state itself -/
def RW (n : Nat) (σ : Nat → Nat → Int32) : Prop := n ≤ 40 ∧ σ 67 42 = nI n ∧ (∀ k, k < n → stepV σ k) ∧ (∀ k, k ≤ n → RI (rpF σ k)) ∧ (∀ k, k < n → σ 98 k ≠ 10 → RI (chgF (rpF σ k) k))
theorem RV.rw {n : Nat} {σ : Nat → Nat → Int32} (h : RV n σ) : RW n σ := ⟨h.1, h.2.1, h.2.2.1, h.2.2.2.1, h.2.2.2.2.1⟩
theorem RV.same {n : Nat} {σ : Nat → Nat → Int32} (h : RV n σ) : zq n (rpF σ n) σ := h.2.2.2.2.2
theorem RV_of {n : Nat} {σ : Nat → Nat → Int32} (h : RW n σ) (q : zq n (rpF σ n) σ) : RV n σ := ⟨h.1, h.2.1, h.2.2.1, h.2.2.2.1, h.2.2.2.2, q⟩
theorem zst_k {n : Nat} {S S' : Nat → Nat → Int32} (h : zkf S S') : zst n S S' := ⟨fun b hb k _ => zkf_st h b (by
  simp only [List.mem_cons, List.not_mem_nil, or_false] at hb
  omega) k, fun k _ i _ => zkf_st h _ (by simp) _⟩
theorem zst_less {n m : Nat} {S S' : Nat → Nat → Int32} (h : zst n S S') (hm : m ≤ n) : zst m S S' := ⟨fun b hb k hk => h.1 b hb k (by omega), fun k hk => h.2 k (by omega)⟩
theorem zst_symm {n : Nat} {S S' : Nat → Nat → Int32} (h : zst n S S') : zst n S' S := ⟨fun b hb k hk => (h.1 b hb k hk).symm, fun k hk i hi => (h.2 k hk i hi).symm⟩
theorem zst_trans {n : Nat} {S S' S'' : Nat → Nat → Int32} (h : zst n S S') (h' : zst n S' S'') : zst n S S'' := ⟨fun b hb k hk => (h'.1 b hb k hk).trans (h.1 b hb k hk), fun k hk i hi => (h'.2 k hk i hi).trans (h.2 k hk i hi)⟩
theorem zq_up {n m : Nat} {S S' : Nat → Nat → Int32} (h : zq n S S') (hs : zst m S S') : zq m S S' := zq_of h.eq h.work h.now h.wait h.held h.code hs.1 hs.2
theorem stepV_z {n : Nat} {S S' : Nat → Nat → Int32} (h : zst n S S') {k : Nat} (hk : k < n) (hv : stepV S k) : stepV S' k := by
  unfold stepV stC stN at *
  rw [h.1 98 (by decide) k hk, h.1 99 (by decide) k hk, h.1 104 (by decide) k hk]
  exact hv
theorem RW.mv {n m : Nat} {S S' : Nat → Nat → Int32} (h : RW n S) (hm : m ≤ n) (ho : zof S S') (hs : zst m S S') (he : S' 67 42 = nI m) : RW m S' := by
  have q := rpF_q ho hs (fun k hk => h.2.2.1 k (by omega))
  refine ⟨Nat.le_trans hm h.1, he, fun k hk => stepV_z hs hk (h.2.2.1 k (by omega)), fun k hk => RI_q (q k hk) (h.2.2.2.1 k (by omega)), fun k hk h10 => ?_⟩
  rw [hs.1 98 (by decide) k hk] at h10
  have hv := h.2.2.1 k (by omega)
  refine RI_q (chgF_q (q k (by omega)) hk (stepV_mv (rpF_k S k) hv) ?_) (h.2.2.2.2 k (by omega) h10)
  rw [zkf_st (rpF_k S k) _ (by simp)]
  exact h10
/-- all told anew -/
theorem RW.replay {n : Nat} {σ : Nat → Nat → Int32} (h : RW n σ) : RV n (rpF σ n) := by
  have ho : zof σ (rpF σ n) := rpF_f σ h.2.2.1
  have hs : zst n σ (rpF σ n) := zst_k (rpF_k σ n)
  have he : rpF σ n 67 42 = nI n := (zkf_m (rpF_k σ n) 42 (by decide)).trans h.2.1
  exact RV_of (h.mv (Nat.le_refl n) ho hs he) (zq_symm (rpF_q ho hs h.2.2.1 n (Nat.le_refl n)))
/-- a change of what nobody looks at -/
theorem RV.mv {n : Nat} {S S' : Nat → Nat → Int32} (h : RV n S) (q : zq n S S') (he : S' 67 42 = S 67 42) : RV n S' := by
  refine RV_of (h.rw.mv (Nat.le_refl n) q.zof q.zst (he.trans h.2.1)) ?_
  exact zq_trans (zq_trans (zq_symm (rpF_q q.zof q.zst h.2.2.1 n (Nat.le_refl n))) h.same) q
theorem RV.undo {n : Nat} {σ : Nat → Nat → Int32} (h : RV (n + 1) σ) : RV n (rpF (zu σ 67 42 (nI n)) n) := by
  refine RW.replay ?_
  refine h.rw.mv (Nat.le_succ n) (zof_u σ _ _ _ (zout_n (by decide))) ⟨fun b hb k hk => ?_, fun k hk i hi => ?_⟩ (zu_eq _ _ _ _)
  · exact zu_ne _ _ _ _ (by rintro rfl; revert hb; decide) k
  · exact zu_ne _ _ _ _ (by decide) _
/-- a step more -/
theorem RV.step {n : Nat} {σ τ : Nat → Nat → Int32} (h : RV n σ) (hn : n < 40) (q : zq n σ τ) (he : τ 67 42 = nI (n + 1)) (hV : stepV τ n) (hC : τ 98 n ≠ 10 → RI (chgF τ n)) : RV (n + 1) (doF τ n).1 := by
  have k1 := doF_k τ n
  have ho : zof τ (doF τ n).1 := doF_f τ hV
  have hs : zst (n + 1) τ (doF τ n).1 := zst_k k1
  have hVt : ∀ k, k < n + 1 → stepV τ k := fun k hk => by
    by_cases e : k = n
    · subst e; exact hV
    · exact stepV_z q.zst (by omega) (h.2.2.1 k (by omega))
  have qt : ∀ k, k ≤ n → zq n (rpF σ k) (rpF τ k) := rpF_q q.zof q.zst h.2.2.1
  have qn : zq (n + 1) (rpF τ n) τ := zq_up (zq_trans (zq_trans (zq_symm (qt n (Nat.le_refl n))) h.same) q) (zst_symm (zst_k (rpF_k τ n)))
  have qd : zq (n + 1) (rpF τ (n + 1)) (doF τ n).1 := (doF_q qn (Nat.lt_succ_self n) (stepV_mv (rpF_k τ n) hV)).1
  have hRt : RI τ := RI_q q h.ri
  have hW : RW (n + 1) τ := by
    refine ⟨hn, he, hVt, fun k hk => ?_, fun k hk h10 => ?_⟩
    · by_cases e : k = n + 1
      · subst e
        exact RI_q (zq_symm qd) (doF_ok hRt hC)
      · exact RI_q (qt k (by omega)) (h.2.2.2.1 k (by omega))
    · by_cases e : k = n
      · subst e
        have qq := chgF_q (zq_symm qn) (Nat.lt_succ_self k) hV h10
        exact RI_q qq (hC h10)
      · have h10' : σ 98 k ≠ 10 := by rw [q.step 98 (by decide) k (by omega)] at h10; exact h10
        have qq := chgF_q (qt k (by omega)) (st := k) (by omega) (stepV_mv (rpF_k σ k) (h.2.2.1 k (by omega))) (by rw [zkf_st (rpF_k σ k) _ (by simp)]; exact h10')
        exact RI_q qq (h.2.2.2.2.1 k (by omega) h10')
  exact RV_of (hW.mv (Nat.le_refl _) ho hs ((zkf_m k1 42 (by decide)).trans he)) (zq_trans (zq_symm (rpF_q ho hs hVt (n + 1) (Nat.le_refl _))) qd)
/-! a step's change keeps the invariant -/
theorem RI_same {S S' : Nat → Nat → Int32} (h : RI S) (e : ∀ b, b ∈ [74, 75, 76, 79, 82, 83] → ∀ j, S' b j = S b j) (hc : CutOK S') : RI S' := by
  refine ⟨fun c hc => WFc_mv (h.1 c hc) (e _ (by decide)) (e _ (by decide)), fun k j hk hj hb => ?_, fun s hs => ?_, hc⟩
  · rw [e _ (by decide)] at hb
    rw [e _ (by decide), e _ (by decide)]
    exact h.2.1 k j hk hj hb
  · rw [e _ (by decide), e _ (by decide)]
    exact h.2.2.1 s hs
theorem CutOK_same {S S' : Nat → Nat → Int32} (h : CutOK S) (e : ∀ b, b ∈ [92, 95, 96] → ∀ j, S' b j = S b j) : CutOK S' := fun k hk h3 => by
  rw [e _ (by decide)] at h3
  rw [e _ (by decide), e _ (by decide)]
  exact h k hk h3
theorem readF_ne (σ : Nat → Nat → Int32) (w : Nat) (v : Int32) {b : Nat} (h : b ≠ 89 ∧ b ≠ 91 ∧ b ≠ 90) (j : Nat) : readF σ w v b j = σ b j := by
  unfold readF
  split
  · simp [zu, h]
  · rw [soilF_ne _ _ _ h.1]; simp [zu, h]
theorem RI.read {σ : Nat → Nat → Int32} (h : RI σ) (w : Nat) (v : Int32) : RI (readF σ w v) :=
  RI_same h (fun b hb j => readF_ne σ w v (by simp only [List.mem_cons, List.not_mem_nil, or_false] at hb; omega) j) (CutOK_same h.2.2.2 (fun b hb j => readF_ne σ w v (by simp only [List.mem_cons, List.not_mem_nil, or_false] at hb; omega) j))
theorem RI.hold {σ : Nat → Nat → Int32} (h : RI σ) (c : Nat) (v : Int32) : RI (becomeF (zu (zu (zu σ 80 c 1) 81 c v) 89 c 0) c v) := by
  have e : ∀ b, b ≠ 88 → b ≠ 89 → b ≠ 80 → b ≠ 81 → ∀ j, becomeF (zu (zu (zu σ 80 c 1) 81 c v) 89 c 0) c v b j = σ b j := fun b h1 h2 h3 h4 j => by
    rw [becomeF_ne _ _ _ h1 h2]; simp [zu, h2, h3, h4]
  refine RI_same h (fun b hb j => ?_) (CutOK_same h.2.2.2 (fun b hb j => ?_))
  all_goals
    simp only [List.mem_cons, List.not_mem_nil, or_false] at hb
    exact e b (by omega) (by omega) (by omega) (by omega) j
theorem RI.release {σ : Nat → Nat → Int32} (h : RI σ) (c : Nat) : RI (zu (zu σ 80 c 0) 89 c 1) := by
  have e : ∀ b, b ≠ 89 → b ≠ 80 → ∀ j, zu (zu σ 80 c 0) 89 c 1 b j = σ b j := fun b h2 h3 j => by simp [zu, h2, h3]
  refine RI_same h (fun b hb j => ?_) (CutOK_same h.2.2.2 (fun b hb j => ?_))
  all_goals
    simp only [List.mem_cons, List.not_mem_nil, or_false] at hb
    exact e b (by omega) (by omega) j
theorem RI.setS {σ : Nat → Nat → Int32} (h : RI σ) (s st : Nat) (h4 : σ 98 st = 4 ∨ σ 98 st = 5 → okC (σ 100 st)) : RI (setSF σ s st) := by
  have e : ∀ b, b ∉ [82, 83, 84, 85, 86, 87, 92] → ∀ j, setSF σ s st b j = σ b j := fun b hb j => by
    have h' : b ≠ 82 ∧ b ≠ 83 ∧ b ≠ 84 ∧ b ≠ 85 ∧ b ≠ 86 ∧ b ≠ 87 ∧ b ≠ 92 := by
      refine ⟨?_, ?_, ?_, ?_, ?_, ?_, ?_⟩ <;> (rintro rfl; exact hb (by decide))
    unfold setSF
    split <;> simp [zu, h']
  have e82 : ∀ j, setSF σ s st 82 j = if j = s ∧ σ 98 st = 4 then σ 100 st else σ 82 j := fun j => by
    unfold setSF
    by_cases q : j = s
    · subst q
      split <;> simp [zu]
    · split <;> simp [zu, q]
  have e83 : ∀ j, setSF σ s st 83 j = if j = s ∧ σ 98 st = 5 then σ 100 st else σ 83 j := fun j => by
    unfold setSF
    by_cases q : j = s
    · subst q
      split <;> simp [zu]
    · split <;> simp [zu, q]
  have e92 : ∀ j, setSF σ s st 92 j = 3 → σ 92 j = 3 := fun j => by
    unfold setSF
    by_cases q : j = s
    · subst q
      split
      · simp only [zu, show ¬ (92 : Nat) = 84 by decide, false_and, if_false, and_self, if_true]
        split
        · exact fun q => absurd q (by decide)
        · exact fun q => q
      · simp only [zu, and_self, if_true]
        split
        · exact fun q => absurd q (by decide)
        · exact fun q => q
    · split <;> simp [zu, q]
  refine ⟨fun c hc => WFc_mv (h.1 c hc) (e _ (by decide)) (e _ (by decide)), fun k j hk hj hb => ?_, fun k hk => ?_, fun k hk h3 => ?_⟩
  · rw [e _ (by decide)] at hb
    rw [e _ (by decide), e _ (by decide)]
    exact h.2.1 k j hk hj hb
  · rw [e82, e83]
    constructor
    · split
      · rename_i q; exact h4 (Or.inl q.2)
      · exact (h.2.2.1 k hk).1
    · split
      · rename_i q; exact h4 (Or.inr q.2)
      · exact (h.2.2.1 k hk).2
  · rw [e _ (by decide), e _ (by decide)]
    exact h.2.2.2 k hk (e92 k h3)

