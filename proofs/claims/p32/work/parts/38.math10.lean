
/-! places behind the rows' ends never change -/
def zout (b j : Nat) : Prop := b ∈ zqL ∧ (12 ≤ j ∨ (5 ≤ j ∧ b ∈ [82, 83, 84, 85, 86, 87, 90, 91, 92, 95, 96, 97]))
def zof (σ σ' : Nat → Nat → Int32) : Prop := ∀ b j, zout b j → σ' b j = σ b j
theorem zof_refl (σ : Nat → Nat → Int32) : zof σ σ := fun _ _ _ => rfl
theorem zof_trans {a b c : Nat → Nat → Int32} (h1 : zof a b) (h2 : zof b c) : zof a c := fun x j p => (h2 x j p).trans (h1 x j p)
theorem zof_symm {a b : Nat → Nat → Int32} (h1 : zof a b) : zof b a := fun x j p => (h1 x j p).symm
theorem zout_c {b j : Nat} (hj : j < 12) (hb : b ∉ [82, 83, 84, 85, 86, 87, 90, 91, 92, 95, 96, 97]) : ¬ zout b j := fun q => by
  rcases q.2 with q | q
  · omega
  · exact hb q.2
theorem zout_s {b j : Nat} (hj : j < 5) : ¬ zout b j := fun q => by
  rcases q.2 with q | q
  · omega
  · omega
theorem zout_n {b j : Nat} (hb : b ∉ zqL) : ¬ zout b j := fun q => hb q.1
theorem zof_u (σ : Nat → Nat → Int32) (a i : Nat) (v : Int32) (h : ¬ zout a i) : zof σ (zu σ a i v) := fun b j q => by
  simp only [zu]
  split
  · rename_i e
    exact absurd (e.1 ▸ e.2 ▸ q) h
  · rfl
theorem soilF_f (σ : Nat → Nat → Int32) (ra w : Nat) : zof σ (soilF σ ra w) := fun b j q => by
  by_cases e : b = 89
  · subst e
    have : ¬ j < 12 := fun hj => zout_c hj (by decide) q
    simp [soilF, soilP, this]
  · exact soilF_ne σ ra w e j
theorem becomeF_f (σ : Nat → Nat → Int32) {c : Nat} (hc : c < 12) (v : Int32) : zof σ (becomeF σ c v) := by
  unfold becomeF
  split
  · exact zof_refl σ
  · exact zof_trans (zof_u σ _ _ _ (zout_c hc (by decide))) (soilF_f _ _ _)
theorem tellF_f (σ : Nat → Nat → Int32) {s : Nat} (hc : s < 5) (v : Int32) : zof σ (tellF σ s v) := by
  unfold tellF
  split
  · exact zof_refl σ
  · exact zof_trans (zof_u σ _ _ _ (zout_s hc)) (soilF_f _ _ _)
theorem wkS_f (σ : Nat → Nat → Int32) {c : Nat} (hc : c < 12) : zof σ (wkS σ c) := by
  unfold wkS
  exact zof_trans (zof_trans (zof_trans (zof_u σ _ _ _ (zout_c hc (by decide))) (zof_u _ _ _ _ (zout_n (by decide)))) (zof_u _ _ _ _ (zout_n (by decide)))) (becomeF_f _ hc _)
theorem wkI_f (k : Nat) : ∀ (σ : Nat → Nat → Int32), zof σ (wkI σ k) := by
  induction k with
  | zero => exact fun σ => zof_refl σ
  | succ k ih =>
    intro σ
    unfold wkI
    split
    · exact zof_refl σ
    · rename_i c hc
      exact zof_trans (wkS_f σ (ndP_lt _ _ _ hc)) (ih _)
theorem runF_f (σ : Nat → Nat → Int32) {s : Nat} (h5 : s < 5) : zof σ (runF σ s) := zof_trans (zof_u σ _ _ _ (zout_s h5)) (zof_u _ _ _ _ (zout_s h5))
theorem changeF_f (σ : Nat → Nat → Int32) {s : Nat} (h5 : s < 5) : zof σ (changeF σ s) := by
  have h1 : zof σ (zu (zu (zu σ 93 s (σ 67 34)) 94 s (σ 86 s)) 92 s 1) := zof_trans (zof_trans (zof_u σ _ _ _ (zout_n (by decide))) (zof_u _ _ _ _ (zout_n (by decide)))) (zof_u _ _ _ _ (zout_s h5))
  unfold changeF
  split
  · exact zof_u σ _ _ _ (zout_s h5)
  split
  · split
    · exact zof_trans h1 (runF_f _ h5)
    · exact h1
  split
  · exact runF_f σ h5
  · exact zof_refl σ
theorem rdS_f (σ : Nat → Nat → Int32) {s : Nat} (h5 : s < 5) : zof σ (rdS σ s) := by
  unfold rdS
  refine zof_trans ?_ (tellF_f _ h5 _)
  unfold rdL
  refine zof_trans ?_ (zof_u _ _ _ _ (zout_s h5))
  unfold rdC
  split
  · exact zof_refl σ
  · exact changeF_f σ h5
theorem rdP_f (σ : Nat → Nat → Int32) {k : Nat} (h5 : k ≤ 5) : zof σ (rdP σ k) := by
  induction k with
  | zero => exact zof_refl σ
  | succ k ih => exact zof_trans (ih (by omega)) (rdS_f _ (by omega))
theorem roundF_f (σ : Nat → Nat → Int32) : zof σ (roundF σ) := zof_trans (wkI_f 12 σ) (rdP_f _ (Nat.le_refl 5))
theorem cutF_f (σ : Nat → Nat → Int32) {k : Nat} (h5 : k < 5) : zof σ (cutF σ k) := zof_trans (zof_trans (zof_u σ _ _ _ (zout_s h5)) (zof_u _ _ _ _ (zout_s h5))) (tellF_f _ h5 _)
theorem blkF_f (r : Nat) : ∀ (σ : Nat → Nat → Int32) late, zof σ (blkF r σ late).1 := by
  induction r with
  | zero => exact fun σ _ => zof_refl σ
  | succ r ih =>
    intro σ late
    by_cases e : maskF σ = 0
    · rw [blkF_0 late e]
      dsimp only
      exact roundF_f σ
    · rw [blkF_1 late e]
      dsimp only
      have h1 := roundF_f σ
      generalize roundF σ = R at h1 ⊢
      exact zof_trans h1 (ih R _)
theorem lowN_lt (m : Int32) : lowN m < 5 := by
  unfold lowN
  repeat' split
  all_goals omega
theorem setF_f (f : Nat) : ∀ (σ : Nat → Nat → Int32), zof σ (setF f σ).1 := by
  induction f with
  | zero => exact fun σ => zof_refl σ
  | succ f ih =>
    intro σ
    have h1 := blkF_f 40 σ 0
    unfold setF
    split
    · exact h1
    · dsimp only
      exact zof_trans (zof_trans h1 (cutF_f _ (lowN_lt _))) (ih _)
theorem dpO_f (σ : Nat → Nat → Int32) {k : Nat} (hk : k ≤ 12) : zof σ (dpO σ k) := by
  induction k with
  | zero => exact zof_refl σ
  | succ k ih => exact zof_trans (ih (by omega)) (zof_u _ _ _ _ (zout_c (by omega) (by decide)))
theorem dpR_f (σ : Nat → Nat → Int32) (k : Nat) : zof σ (dpR σ k) := by
  induction k with
  | zero => exact zof_refl σ
  | succ k ih => exact zof_trans ih (dpO_f _ (Nat.le_refl 12))
theorem dzP_f (σ : Nat → Nat → Int32) : zof σ (dzP σ 12) := fun b j q => by
  simp only [dzP]
  split
  · rename_i e
    exact absurd (e.1 ▸ q) (zout_c e.2 (by decide))
  · rfl
theorem gvP_f (σ : Nat → Nat → Int32) {c : Nat} (hc : c < 12) (st n : Nat) : zof σ (gvP σ c st n) := fun b j q => by
  have h74 : b ≠ 74 := by rintro rfl; exact zout_n (by decide) q
  have hx : ∀ x, x ∉ [82, 83, 84, 85, 86, 87, 90, 91, 92, 95, 96, 97] → ¬ (b = x ∧ j = c) := fun x hx e => zout_c (e.2 ▸ hc) (e.1 ▸ hx) q
  simp only [gvP, h74, false_and, if_false, hx 75 (by decide), hx 76 (by decide), hx 77 (by decide), hx 78 (by decide)]
theorem giveF_f (σ : Nat → Nat → Int32) {c : Nat} (hc : c < 12) (st n : Nat) : zof σ (giveF σ c st n) := by
  unfold giveF
  exact zof_trans (zof_trans (zof_trans (gvP_f σ hc st n) (dzP_f _)) (dpR_f _ 12)) (zof_u _ _ _ _ (zout_c hc (by decide)))
theorem setCF_f (σ : Nat → Nat → Int32) {c : Nat} (hc : c < 12) (st n : Nat) : zof σ (setCF σ c st n) := by
  unfold setCF
  split
  · exact giveF_f σ hc st n
  split
  · exact zof_trans (zof_trans (zof_trans (zof_u σ _ _ _ (zout_c hc (by decide))) (zof_u _ _ _ _ (zout_n (by decide)))) (zof_u _ _ _ _ (zout_c hc (by decide)))) (becomeF_f _ hc _)
  · exact zof_trans (zof_u σ _ _ _ (zout_c hc (by decide))) (zof_u _ _ _ _ (zout_c hc (by decide)))
theorem readF_f (σ : Nat → Nat → Int32) {w : Nat} (h5 : w < 5) (v : Int32) : zof σ (readF σ w v) := by
  unfold readF
  split
  · exact zof_u σ _ _ _ (zout_s h5)
  · exact zof_trans (zof_trans (zof_u σ _ _ _ (zout_s h5)) (zof_u _ _ _ _ (zout_s h5))) (soilF_f _ _ _)
theorem setSF_f (σ : Nat → Nat → Int32) {s : Nat} (h5 : s < 5) (st : Nat) : zof σ (setSF σ s st) := by
  unfold setSF
  dsimp only
  have u : ∀ {τ : Nat → Nat → Int32} b v, zof σ τ → zof σ (zu τ b s v) := fun b v e => zof_trans e (zof_u _ _ _ _ (zout_s h5))
  split
  · exact u _ _ (u _ _ (u _ _ (u _ _ (u _ _ (u _ _ (u _ _ (zof_refl σ)))))))
  · exact u _ _ (u _ _ (u _ _ (u _ _ (u _ _ (u _ _ (zof_refl σ))))))
theorem chgF_f (σ : Nat → Nat → Int32) {st : Nat} (hV : stepV σ st) (hk : σ 98 st ≠ 10) : zof σ (chgF σ st) := by
  unfold chgF
  rcases hV with hV | hV | hV | hV
  · rw [if_pos (by rcases hV.1 with q | q | q <;> rw [q] <;> decide)]
    exact setCF_f σ hV.2.1 _ _
  · rw [if_neg (by rw [hV.1]; decide), if_pos hV.1]
    exact readF_f σ hV.2.1 _
  · obtain ⟨⟨k, k4, k9, e⟩, h5, -⟩ := hV
    rw [if_neg (by rw [e]; exact Int32.not_le.mpr (nI_lt (a := 2) (by omega) (by omega))), if_neg (by rw [e]; intro q; exact absurd ((nI_eq (b := 3) (by omega) (by decide)).mp q) (by omega))]
    exact setSF_f σ h5 st
  · exact absurd hV.1 hk
theorem tickF_f (σ : Nat → Nat → Int32) (k : Nat) : zof σ (tickF σ k).1 := by
  induction k with
  | zero => exact zof_refl σ
  | succ k ih =>
    have h2 := setF_f 6 (nowF (tickF σ k).1)
    exact zof_trans (zof_trans ih (zof_u _ _ _ _ (zout_n (by decide)))) h2
theorem doF_f (σ : Nat → Nat → Int32) {st : Nat} (hV : stepV σ st) : zof σ (doF σ st).1 := by
  unfold doF
  split
  · exact tickF_f σ _
  · rename_i q
    exact zof_trans (chgF_f σ hV q) (setF_f 6 _)
theorem clearF_f (σ : Nat → Nat → Int32) : zof σ (clearF σ) := fun b j q => by
  have h1 : ¬ b = 67 := fun e => zout_n (by decide) (e ▸ q)
  have hc : ∀ x, x ∉ [82, 83, 84, 85, 86, 87, 90, 91, 92, 95, 96, 97] → ¬ (b = x ∧ j < 12) := fun x hx e => zout_c e.2 (e.1 ▸ hx) q
  have hs : ∀ x, ¬ (b = x ∧ j < 5) := fun x e => zout_s e.2 q
  simp only [clearF, zu, clS, clP, h1, false_and, hc 88 (by decide), hc 89 (by decide), hs, if_false]
theorem beginF_f (σ : Nat → Nat → Int32) : zof σ (beginF σ) := fun b j q => by
  have h1 : ¬ b = 67 := fun e => zout_n (by decide) (e ▸ q)
  have h74 : ¬ b = 74 := fun e => zout_n (by decide) (e ▸ q)
  have hc : ∀ x, x ∉ [82, 83, 84, 85, 86, 87, 90, 91, 92, 95, 96, 97] → ¬ (b = x ∧ j < 12) := fun x hx e => zout_c e.2 (e.1 ▸ hx) q
  have hs : ∀ x, ¬ (b = x ∧ j < 5) := fun x e => zout_s e.2 q
  simp only [beginF, zu, h1, false_and, if_false, beD, hc 89 (by decide)]
  rw [clearF_f _ b j q]
  simp only [beS, hs, if_false, beP, h74, false_and, hc 75 (by decide), hc 76 (by decide), hc 77 (by decide), hc 78 (by decide), hc 79 (by decide), hc 80 (by decide)]
theorem rpF_f (σ : Nat → Nat → Int32) {n : Nat} (hV : ∀ k, k < n → stepV σ k) : zof σ (rpF σ n) := by
  induction n with
  | zero => exact beginF_f σ
  | succ n ih => exact zof_trans (ih (fun k hk => hV k (by omega))) (doF_f _ (stepV_mv (rpF_k σ n) (hV n (by omega))))
/-- the same steps: what is kept of them, as far as n -/
def zst (n : Nat) (S S' : Nat → Nat → Int32) : Prop := (∀ b, b ∈ [98, 99, 100, 101, 102, 104] → ∀ k, k < n → S' b k = S b k) ∧ (∀ k, k < n → ∀ i, i < 30 → S' 103 (30 * k + i) = S 103 (30 * k + i))
theorem beginF_q {n : Nat} {S S' : Nat → Nat → Int32} (ho : zof S S') (hs : zst n S S') : zq n (beginF S) (beginF S') := by
  have in_ : ∀ (R : Nat → Nat → Int32) b j, b ∈ zqL → ¬ zout b j → beginF R b j = beginF (fun _ _ => 0) b j := by
    intro R b j hb hn
    have hj : j < 12 := by
      apply Classical.byContradiction
      intro q
      exact hn ⟨hb, Or.inl (by omega)⟩
    have h5 : b ∈ [82, 83, 84, 85, 86, 87, 90, 91, 92, 95, 96, 97] → j < 5 := fun hs => by
      apply Classical.byContradiction
      intro q
      exact hn ⟨hb, Or.inr ⟨by omega, hs⟩⟩
    simp only [zqL, List.mem_cons, List.not_mem_nil, or_false] at hb
    rcases hb with rfl | rfl | rfl | rfl | rfl | rfl | rfl | rfl | rfl | rfl | rfl | rfl | rfl | rfl | rfl | rfl | rfl | rfl | rfl | rfl
    all_goals first
      | (simp [beginF, beD, clearF, clS, clP, beS, beP, zu, hj]; done)
      | (have h6 := h5 (by decide); simp [beginF, beD, clearF, clS, clP, beS, beP, zu, h6]; done)
  refine zq_of (fun b hb j => ?_) (by simp [beginF, beD, clearF, zu]) (by simp [beginF, zu]) (fun s h5 hq => ?_) (fun c hc hq => ?_) (fun c k hc hk => ?_) (fun b hb k hk => ?_) (fun k hk i hi => ?_)
  · by_cases q : zout b j
    · rw [beginF_f S b j q, beginF_f S' b j q, ho b j q]
    · rw [in_ S b j hb q, in_ S' b j hb q]
  · rw [in_ S _ _ (by decide) (zout_s h5)] at hq
    simp [beginF, beD, clearF, clS, clP, beS, beP, zu, h5] at hq
  · rw [in_ S _ _ (by decide) (zout_c hc (by decide))] at hq
    simp [beginF, beD, clearF, clS, clP, beS, beP, zu, hc] at hq
  · have e1 : cdn (beginF S) c = 1 := by
      unfold cdn
      rw [in_ S _ _ (by decide) (zout_c hc (by decide))]
      simp [beginF, beD, clearF, clS, clP, beS, beP, zu, hc]
    have e2 : k = 0 := by omega
    subst e2
    have e3 : ∀ R : Nat → Nat → Int32, beginF R 74 (30 * c + 0) = 0 := fun R => by simp [beginF, beD, clearF, clS, clP, beS, beP, zu, hc]
    rw [e3, e3]
  · have hb' : b = 98 ∨ b = 99 ∨ b = 100 ∨ b = 101 ∨ b = 102 ∨ b = 103 ∨ b = 104 := by
      simp only [List.mem_cons, List.not_mem_nil, or_false] at hb
      omega
    rw [zkf_st (beginF_k S) b hb', zkf_st (beginF_k S') b hb']
    exact hs.1 b hb k hk
  · rw [zkf_st (beginF_k S) _ (by simp), zkf_st (beginF_k S') _ (by simp)]
    exact hs.2 k hk i hi
/-- what is told anew is the same where the steps are -/
theorem rpF_q {n : Nat} {S S' : Nat → Nat → Int32} (ho : zof S S') (hs : zst n S S') (hV : ∀ k, k < n → stepV S k) : ∀ k, k ≤ n → zq n (rpF S k) (rpF S' k) := by
  intro k
  induction k with
  | zero => exact fun _ => beginF_q ho hs
  | succ k ih => exact fun hk => (doF_q (ih (by omega)) (st := k) (by omega) (stepV_mv (rpF_k S k) (hV k (by omega)))).1
theorem dpt_eq {w w' : Nat → Nat} {m : Nat} (hw : ∀ k, k < m → w' k = w k) : ∀ k, k ≤ m → dpt w' k = dpt w k := by
  intro k
  induction k with
  | zero => exact fun _ => rfl
  | succ k ih => exact fun hk => by simp only [dpt]; rw [ih (by omega), hw k (by omega)]
theorem WF_eq {w w' : Nat → Nat} {m : Nat} (hw : ∀ k, k < m → w' k = w k) (h : WF w m) : WF w' m := by
  obtain ⟨w1, w2, w3⟩ := h
  refine ⟨w1, (dpt_eq hw m (Nat.le_refl m)).trans w2, fun k hk => ?_⟩
  rw [hw k hk, dpt_eq hw k (Nat.le_of_lt hk)]
  exact w3 k hk
theorem WFc_q {n : Nat} {S S' : Nat → Nat → Int32} (h : zq n S S') {c : Nat} (hc : c < 12) (hw : WFc S c) : WFc S' c := by
  obtain ⟨w0, w4, w5⟩ := hw
  have e := zq_cn h c
  have hd : ∀ k, k < cdn S c → cdw S' c k = cdw S c k := fun k hk => cdw_q h hc hk
  unfold WFc
  rw [e]
  refine ⟨WF_eq hd w0, ?_, fun k hk => ?_⟩
  · rw [h.eq 75 (by decide)]; exact w4
  · rw [hd k hk, h.code c k hc hk]
    exact w5 k hk
theorem RI_q {n : Nat} {S S' : Nat → Nat → Int32} (h : zq n S S') (hr : RI S) : RI S' := by
  refine ⟨fun c hc => WFc_q h hc (hr.1 c hc), fun k j hk hj hb => ?_, fun s hs => ?_, fun k hk h3 => ?_⟩
  · rw [h.eq 76 (by decide)] at hb
    rw [h.eq 79 (by decide), h.eq 79 (by decide)]
    exact hr.2.1 k j hk hj hb
  · rw [h.eq 82 (by decide), h.eq 83 (by decide)]
    exact hr.2.2.1 s hs
  · rw [h.eq 92 (by decide)] at h3
    rw [h.eq 95 (by decide), h.eq 96 (by decide)]
    exact hr.2.2.2 k hk h3
/-- the reference's invariant, with n steps kept -/
def RV (n : Nat) (σ : Nat → Nat → Int32) : Prop := n ≤ 40 ∧ σ 67 42 = nI n ∧ (∀ k, k < n → stepV σ k) ∧ (∀ k, k ≤ n → RI (rpF σ k)) ∧ (∀ k, k < n → σ 98 k ≠ 10 → RI (chgF (rpF σ k) k)) ∧ zq n (rpF σ n) σ
theorem RV.ri {n : Nat} {σ : Nat → Nat → Int32} (h : RV n σ) : RI σ := RI_q h.2.2.2.2.2 (h.2.2.2.1 n (Nat.le_refl n))
theorem zq.zst {n : Nat} {S S' : Nat → Nat → Int32} (h : zq n S S') : zst n S S' := ⟨h.step, h.scode⟩
theorem zq.zof {n : Nat} {S S' : Nat → Nat → Int32} (h : zq n S S') : zof S S' := fun b j q => h.eq b q.1 j

