
/-- a round's part for one service -/
def rdC (σ : Nat → Nat → Int32) (k : Nat) : Nat → Nat → Int32 := if σ 92 k = 3 then σ else changeF σ k
def rdL (σ : Nat → Nat → Int32) (k : Nat) : Nat → Nat → Int32 := zu σ 95 k (loadN σ k)
def rdT (σ : Nat → Nat → Int32) (k : Nat) : Int32 := if 0 ≤ σ 87 k ∧ σ 92 k = 2 then σ 87 k else σ 95 k
def rdS (σ : Nat → Nat → Int32) (k : Nat) : Nat → Nat → Int32 := tellF (rdL (rdC σ k) k) k (rdT (rdL (rdC σ k) k) k)
def chB (σ σ' : Nat → Nat → Int32) (k : Nat) : Bool := !(decide (σ' 92 k = σ 92 k) && (decide (σ' 95 k = σ 95 k) && decide (σ' 96 k = σ 96 k)))
def rdP (σ : Nat → Nat → Int32) : Nat → Nat → Nat → Int32
  | 0 => σ
  | n + 1 => rdS (rdP σ n) n
def rdM (σ : Nat → Nat → Int32) : Nat → Int32
  | 0 => 0
  | n + 1 => rdM σ n ||| (if chB (rdP σ n) (rdP σ (n + 1)) n = true then (1 : Int32) <<< (nI n &&& 31) else 0)
def roundF (σ : Nat → Nat → Int32) : Nat → Nat → Int32 := rdP (worksF σ) 5
def maskF (σ : Nat → Nat → Int32) : Int32 := rdM (worksF σ) 5
def cutF (σ : Nat → Nat → Int32) (k : Nat) : Nat → Nat → Int32 := tellF (zu (zu σ 92 k 3) 95 k 0) k 0
def lowN (m : Int32) : Nat := if bt m 0 = true then 0 else if bt m 1 = true then 1 else if bt m 2 = true then 2 else if bt m 3 = true then 3 else 4
def blkF : Nat → (Nat → Nat → Int32) → Int32 → (Nat → Nat → Int32) × Nat × Bool × Int32
  | 0, σ, late => (σ, 0, true, late)
  | r + 1, σ, late => if maskF σ = 0 then (roundF σ, 1, false, late ||| (if r < 12 then maskF σ else 0)) else ((blkF r (roundF σ) (late ||| (if r < 12 then maskF σ else 0))).1, (blkF r (roundF σ) (late ||| (if r < 12 then maskF σ else 0))).2.1 + 1, (blkF r (roundF σ) (late ||| (if r < 12 then maskF σ else 0))).2.2.1, (blkF r (roundF σ) (late ||| (if r < 12 then maskF σ else 0))).2.2.2)
theorem blkF_0 {r : Nat} {σ : Nat → Nat → Int32} (late : Int32) (h : maskF σ = 0) : blkF (r + 1) σ late = (roundF σ, 1, false, late ||| (if r < 12 then maskF σ else 0)) := by
  rw [blkF, if_pos h]
theorem blkF_1 {r : Nat} {σ : Nat → Nat → Int32} (late : Int32) (h : maskF σ ≠ 0) : blkF (r + 1) σ late = ((blkF r (roundF σ) (late ||| (if r < 12 then maskF σ else 0))).1, (blkF r (roundF σ) (late ||| (if r < 12 then maskF σ else 0))).2.1 + 1, (blkF r (roundF σ) (late ||| (if r < 12 then maskF σ else 0))).2.2.1, (blkF r (roundF σ) (late ||| (if r < 12 then maskF σ else 0))).2.2.2) := by
  rw [blkF, if_neg h]
def setF : Nat → (Nat → Nat → Int32) → (Nat → Nat → Int32) × Nat
  | 0, σ => (σ, 0)
  | f + 1, σ => if (blkF 40 σ 0).2.2.1 = false then ((blkF 40 σ 0).1, (blkF 40 σ 0).2.1) else ((setF f (cutF (blkF 40 σ 0).1 (lowN (blkF 40 σ 0).2.2.2))).1, (blkF 40 σ 0).2.1 + (setF f (cutF (blkF 40 σ 0).1 (lowN (blkF 40 σ 0).2.2.2))).2)
/-- the same but for what rounds change -/
def zsv (σ σ' : Nat → Nat → Int32) : Prop := ∀ b j, b ≠ 88 → b ≠ 89 → b ≠ 67 → b ≠ 92 → b ≠ 93 → b ≠ 94 → b ≠ 95 → b ≠ 96 → b ≠ 97 → σ' b j = σ b j
theorem zsv_refl (σ : Nat → Nat → Int32) : zsv σ σ := fun _ _ _ _ _ _ _ _ _ _ _ => rfl
theorem zsv_trans {a b c : Nat → Nat → Int32} (h1 : zsv a b) (h2 : zsv b c) : zsv a c := fun x j p q r s t u v w y => (h2 x j p q r s t u v w y).trans (h1 x j p q r s t u v w y)
theorem zsm_v {a b : Nat → Nat → Int32} (h : zsm a b) : zsv a b := fun x j p q r _ _ _ _ _ _ => h x j p q r
theorem changeF_v (σ : Nat → Nat → Int32) (k : Nat) : zsv σ (changeF σ k) := by
  intro b j h1 h2 h3 h4 h5 h6 h7 h8 h9
  unfold changeF runF
  repeat' split
  all_goals simp [zu, h4, h5, h6, h9]
theorem tellF_ne (σ : Nat → Nat → Int32) (s : Nat) (v : Int32) {b : Nat} (h1 : b ≠ 96) (h2 : b ≠ 89) (j : Nat) : tellF σ s v b j = σ b j := by
  unfold tellF
  split
  · rfl
  · rw [soilF_ne _ _ _ h2]; simp [zu, h1]
theorem tellF_told (σ : Nat → Nat → Int32) (s : Nat) (v : Int32) (j : Nat) : tellF σ s v 96 j = if j = s then v else σ 96 j := by
  unfold tellF
  split
  · rename_i h
    by_cases e : j = s
    · subst e; simp [h]
    · simp [e]
  · rw [soilF_ne _ _ _ (by decide)]; simp [zu]
theorem rdC_v (σ : Nat → Nat → Int32) (k : Nat) : zsv σ (rdC σ k) := by
  unfold rdC
  split
  · exact zsv_refl σ
  · exact changeF_v σ k
theorem rdS_v (σ : Nat → Nat → Int32) (k : Nat) : zsv σ (rdS σ k) := by
  intro b j h1 h2 h3 h4 h5 h6 h7 h8 h9
  unfold rdS rdL
  rw [tellF_ne _ _ _ h8 h2]
  simp only [zu, h7, false_and, if_false]
  exact rdC_v σ k b j h1 h2 h3 h4 h5 h6 h7 h8 h9
theorem rdP_v (σ : Nat → Nat → Int32) (n : Nat) : zsv σ (rdP σ n) := by
  induction n with
  | zero => exact zsv_refl σ
  | succ n ih => exact zsv_trans ih (rdS_v _ n)
theorem roundF_v (σ : Nat → Nat → Int32) : zsv σ (roundF σ) := zsv_trans (zsm_v (wkI_sm 12 σ)) (rdP_v _ 5)
theorem cutF_v (σ : Nat → Nat → Int32) (k : Nat) : zsv σ (cutF σ k) := by
  intro b j h1 h2 h3 h4 h5 h6 h7 h8 h9
  unfold cutF
  rw [tellF_ne _ _ _ h8 h2]
  simp [zu, h4, h7]
def CutOK (σ : Nat → Nat → Int32) : Prop := ∀ k, k < 5 → σ 92 k = 3 → σ 95 k = 0 ∧ σ 96 k = 0
def RI (σ : Nat → Nat → Int32) : Prop := (∀ c, c < 12 → WFc σ c) ∧ DepthOK σ ∧ (∀ s, s < 5 → okC (σ 82 s) ∧ okC (σ 83 s)) ∧ CutOK σ
theorem zsv.at {σ σ' : Nat → Nat → Int32} (e : zsv σ σ') (b : Nat) (hb : b ≠ 88 ∧ b ≠ 89 ∧ b ≠ 67 ∧ b ≠ 92 ∧ b ≠ 93 ∧ b ≠ 94 ∧ b ≠ 95 ∧ b ≠ 96 ∧ b ≠ 97) (j : Nat) : σ' b j = σ b j := by
  obtain ⟨h1, h2, h3, h4, h5, h6, h7, h8, h9⟩ := hb
  exact e b j h1 h2 h3 h4 h5 h6 h7 h8 h9
theorem RI.mv {σ σ' : Nat → Nat → Int32} (h : RI σ) (e : zsv σ σ') (hc : CutOK σ') : RI σ' := by
  refine ⟨fun c hc => WFc_mv (h.1 c hc) (e.at _ (by decide)) (e.at _ (by decide)), ?_, fun s hs => ?_, hc⟩
  · intro k j hk hj hb
    rw [e.at _ (by decide)] at hb
    rw [e.at _ (by decide), e.at _ (by decide)]
    exact h.2.1 k j hk hj hb
  · rw [e.at _ (by decide), e.at _ (by decide)]
    exact h.2.2.1 s hs
theorem worksF_at (σ : Nat → Nat → Int32) (b : Nat) (hb : b ≠ 88 ∧ b ≠ 89 ∧ b ≠ 67) (j : Nat) : worksF σ b j = σ b j := wkI_sm 12 σ b j hb.1 hb.2.1 hb.2.2
theorem RI.works {σ : Nat → Nat → Int32} (h : RI σ) : RI (worksF σ) := h.mv (zsm_v (wkI_sm 12 σ)) (fun k hk h3 => by
  rw [worksF_at _ _ (by decide)] at h3
  rw [worksF_at _ _ (by decide), worksF_at _ _ (by decide)]
  exact h.2.2.2 k hk h3)
theorem changeF_st (σ : Nat → Nat → Int32) (k : Nat) (h3 : σ 92 k ≠ 3) : changeF σ k 92 k ≠ 3 ∧ ∀ j, j ≠ k → changeF σ k 92 j = σ 92 j := by
  unfold changeF runF
  refine ⟨?_, fun j hj => ?_⟩
  · repeat' split
    all_goals first
      | (simp [zu]; done)
      | (simp [zu, h3]; done)
  · repeat' split
    all_goals simp [zu, hj]
theorem rdC_st (σ : Nat → Nat → Int32) (k j : Nat) : rdC σ k 92 j = 3 ↔ σ 92 j = 3 := by
  unfold rdC
  split
  · exact Iff.rfl
  · rename_i h
    obtain ⟨h1, h2⟩ := changeF_st σ k h
    by_cases e : j = k
    · subst e; exact ⟨fun q => absurd q h1, fun q => absurd q h⟩
    · rw [h2 j e]
theorem rdC_lt (σ : Nat → Nat → Int32) (k : Nat) {b : Nat} (hb : b = 95 ∨ b = 96) (j : Nat) : rdC σ k b j = σ b j := by
  unfold rdC
  split
  · rfl
  · unfold changeF runF
    rcases hb with rfl | rfl <;> (repeat' split) <;> simp [zu]
theorem rdS_st (σ : Nat → Nat → Int32) (k j : Nat) : rdS σ k 92 j = 3 ↔ σ 92 j = 3 := by
  unfold rdS rdL
  rw [tellF_ne _ _ _ (by decide) (by decide)]
  simp only [zu]
  exact rdC_st σ k j
theorem loadN_3 {σ : Nat → Nat → Int32} {k : Nat} (h : σ 92 k = 3) : loadN σ k = 0 := by
  have : ¬ (σ 92 k = 2) := by rw [h]; decide
  simp [loadN, this]
theorem rdS_cut (σ : Nat → Nat → Int32) (k : Nat) (h : CutOK σ) (hk : k < 5) : CutOK (rdS σ k) ∧ (σ 92 k = 3 → chB σ (rdS σ k) k = false) := by
  have main : ∀ j, j < 5 → σ 92 j = 3 → rdS σ k 95 j = 0 ∧ rdS σ k 96 j = 0 := by
    intro j hj hs
    unfold rdS
    rw [tellF_ne _ _ _ (by decide) (by decide), tellF_told]
    have hs' : rdC σ k 92 j = 3 := (rdC_st σ k j).mpr hs
    by_cases e : j = k
    · subst e
      have h2 : rdL (rdC σ j) j 92 j = 3 := by simp [rdL, zu, hs']
      have h4 : ¬ (rdL (rdC σ j) j 92 j = 2) := by rw [h2]; decide
      have h5 : rdL (rdC σ j) j 95 j = 0 := by simp [rdL, zu, loadN_3 hs']
      simp [rdT, h4, h5]
    · have h5 : rdL (rdC σ k) k 95 j = σ 95 j := by simp only [rdL, zu, e, and_false, if_false]; exact rdC_lt σ k (Or.inl rfl) j
      have h6 : rdL (rdC σ k) k 96 j = σ 96 j := by simp only [rdL, zu]; exact rdC_lt σ k (Or.inr rfl) j
      simp only [e, if_false, h5, h6]
      exact h j hj hs
  refine ⟨fun j hj hs => main j hj ((rdS_st σ k j).mp hs), fun hs => ?_⟩
  obtain ⟨h1, h2⟩ := main k hk hs
  obtain ⟨h3, h4⟩ := h k hk hs
  have h5 : rdS σ k 92 k = 3 := (rdS_st σ k k).mpr hs
  simp [chB, h1, h2, h3, h4, h5, hs]
theorem rdP_cut (σ : Nat → Nat → Int32) (h : CutOK σ) : ∀ n, n ≤ 5 → CutOK (rdP σ n) := by
  intro n
  induction n with
  | zero => exact fun _ => h
  | succ n ih => exact fun hn => (rdS_cut _ n (ih (by omega)) (by omega)).1
theorem rdP_st (σ : Nat → Nat → Int32) (n j : Nat) : rdP σ n 92 j = 3 ↔ σ 92 j = 3 := by
  induction n with
  | zero => exact Iff.rfl
  | succ n ih => exact (rdS_st _ n j).trans ih
theorem RI.rd {σ : Nat → Nat → Int32} (h : RI σ) {n : Nat} (hn : n ≤ 5) : RI (rdP σ n) := h.mv (rdP_v σ n) (rdP_cut σ h.2.2.2 n hn)
theorem RI.round {σ : Nat → Nat → Int32} (h : RI σ) : RI (roundF σ) := h.works.rd (Nat.le_refl 5)
theorem roundF_st (σ : Nat → Nat → Int32) (j : Nat) : roundF σ 92 j = 3 ↔ σ 92 j = 3 := by
  unfold roundF
  rw [rdP_st, worksF_at _ _ (by decide)]
/-- a bit of the mask: that service was not cut -/
theorem rdM_bt {σ : Nat → Nat → Int32} (h : CutOK σ) : ∀ n, n ≤ 5 → ∀ k, k < 32 → bt (rdM σ n) k = true → k < n ∧ σ 92 k ≠ 3 := by
  intro n
  induction n with
  | zero => intro _ k hk hb; simp [rdM, b_0] at hb
  | succ n ih =>
    intro hn k hk hb
    simp only [rdM, b_or, Bool.or_eq_true] at hb
    rcases hb with hb | hb
    · obtain ⟨h1, h2⟩ := ih (by omega) k hk hb
      exact ⟨by omega, h2⟩
    · split at hb
      · rename_i hc
        rw [b_one n (by omega) hk] at hb
        have e : k = n := of_decide_eq_true hb
        subst e
        refine ⟨by omega, fun h3 => ?_⟩
        have := (rdS_cut (rdP σ k) k (rdP_cut σ h k (by omega)) (by omega)).2 ((rdP_st σ k k).mpr h3)
        rw [show rdP σ (k + 1) = rdS (rdP σ k) k from rfl] at hc
        rw [this] at hc
        cases hc
      · rw [b_0] at hb; cases hb
theorem maskF_bt {σ : Nat → Nat → Int32} (h : RI σ) {k : Nat} (hk : k < 32) (hb : bt (maskF σ) k = true) : k < 5 ∧ σ 92 k ≠ 3 := by
  have := rdM_bt h.works.2.2.2 5 (Nat.le_refl 5) k hk hb
  rw [worksF_at _ _ (by decide)] at this
  exact this
theorem bt_ex {m : Int32} (h : m ≠ 0) : ∃ k, k < 32 ∧ bt m k = true := by
  apply Classical.byContradiction
  intro hn
  apply h
  apply b_ext
  intro i hi
  rw [b_0]
  cases hb : bt m i with
  | false => rfl
  | true => exact absurd ⟨i, hi, hb⟩ hn
theorem lowN_ok {m : Int32} (h : ∃ k, k < 5 ∧ bt m k = true) : lowN m < 5 ∧ bt m (lowN m) = true ∧ ∀ j, j < lowN m → bt m j = false := by
  obtain ⟨k, hk, hb⟩ := h
  unfold lowN
  repeat' split
  all_goals refine ⟨by omega, ?_, ?_⟩
  all_goals first
    | assumption
    | (intro j hj; omega)
    | skip
  · intro j hj
    have : j = 0 := by omega
    subst this; simp_all
  · intro j hj
    rcases (by omega : j = 0 ∨ j = 1) with rfl | rfl <;> simp_all
  · intro j hj
    rcases (by omega : j = 0 ∨ j = 1 ∨ j = 2) with rfl | rfl | rfl <;> simp_all
  · rcases (by omega : k = 0 ∨ k = 1 ∨ k = 2 ∨ k = 3 ∨ k = 4) with rfl | rfl | rfl | rfl | rfl <;> simp_all
  · intro j hj
    rcases (by omega : j = 0 ∨ j = 1 ∨ j = 2 ∨ j = 3) with rfl | rfl | rfl | rfl <;> simp_all
/-- behind a block: the invariant; cut is cut; what came late is not cut; where it goes on, something came late -/
theorem blkF_ok : ∀ (r : Nat) (σ : Nat → Nat → Int32) (late : Int32), RI σ → (∀ k, k < 32 → bt late k = true → k < 5 ∧ σ 92 k ≠ 3) →
    RI (blkF r σ late).1 ∧ (∀ k, (blkF r σ late).1 92 k = 3 ↔ σ 92 k = 3) ∧ (∀ k, k < 32 → bt (blkF r σ late).2.2.2 k = true → k < 5 ∧ σ 92 k ≠ 3) ∧ ((blkF r σ late).2.2.1 = true → (0 < r ∨ ∃ k, k < 5 ∧ bt late k = true) → ∃ k, k < 5 ∧ bt (blkF r σ late).2.2.2 k = true) := by
  intro r
  induction r with
  | zero =>
    intro σ late h hl
    refine ⟨h, fun k => Iff.rfl, hl, fun _ q => ?_⟩
    rcases q with q | q
    · omega
    · exact q
  | succ r ih =>
    intro σ late h hl
    have hl2 : ∀ k, k < 32 → bt (late ||| (if r < 12 then maskF σ else 0)) k = true → k < 5 ∧ σ 92 k ≠ 3 := by
      intro k hk hb
      simp only [b_or, Bool.or_eq_true] at hb
      rcases hb with hb | hb
      · exact hl k hk hb
      · split at hb
        · exact maskF_bt h hk hb
        · rw [b_0] at hb; cases hb
    by_cases hm : maskF σ = 0
    · rw [blkF_0 late hm]
      dsimp only
      refine ⟨h.round, roundF_st σ, hl2, fun q => ?_⟩
      cases q
    · rw [blkF_1 late hm]
      dsimp only
      generalize hl' : late ||| (if r < 12 then maskF σ else 0) = l2 at hl2 ⊢
      obtain ⟨g1, g2, g3, g4⟩ := ih (roundF σ) l2 h.round (fun k hk hb => ⟨(hl2 k hk hb).1, fun q => (hl2 k hk hb).2 ((roundF_st σ k).mp q)⟩)
      refine ⟨g1, fun k => (g2 k).trans (roundF_st σ k), fun k hk hb => ⟨(g3 k hk hb).1, fun q => (g3 k hk hb).2 ((roundF_st σ k).mpr q)⟩, fun q _ => ?_⟩
      apply g4 q
      by_cases h12 : r < 12
      · right
        obtain ⟨k, hk, hb⟩ := bt_ex hm
        refine ⟨k, (maskF_bt h hk hb).1, ?_⟩
        rw [← hl', b_or, if_pos h12, hb, Bool.or_true]
      · left; omega
def ncut (σ : Nat → Nat → Int32) : Nat := (List.range 5).countP (fun k => decide (σ 92 k ≠ 3))
theorem cutF_st (σ : Nat → Nat → Int32) (k j : Nat) : cutF σ k 92 j = if j = k then 3 else σ 92 j := by
  unfold cutF
  rw [tellF_ne _ _ _ (by decide) (by decide)]
  simp [zu]
theorem ncut_cut {σ : Nat → Nat → Int32} {k : Nat} (hk : k < 5) (h3 : σ 92 k ≠ 3) : ncut (cutF σ k) < ncut σ := by
  refine countP_lt (a := k) (fun x hx hp => ?_) (List.mem_range.mpr hk) (decide_eq_true h3) ?_
  · rw [decide_eq_true_eq, cutF_st] at hp
    rw [decide_eq_true_eq]
    split at hp
    · exact absurd rfl hp
    · exact hp
  · rw [decide_eq_false_iff_not, cutF_st, if_pos rfl]
    exact fun q => q rfl
theorem RI.cut {σ : Nat → Nat → Int32} (h : RI σ) (k : Nat) : RI (cutF σ k) := by
  refine h.mv (cutF_v σ k) (fun j hj hs => ?_)
  rw [cutF_st] at hs
  unfold cutF
  rw [tellF_ne _ _ _ (by decide) (by decide), tellF_told]
  by_cases e : j = k
  · subst e; simp [zu]
  · simp only [e, if_false] at hs ⊢
    have := h.2.2.2 j hj hs
    simp only [zu, e, and_false, if_false]
    exact ⟨by simpa using this.1, by simpa using this.2⟩
theorem ncut_eq {σ σ' : Nat → Nat → Int32} (h : ∀ k, σ' 92 k = 3 ↔ σ 92 k = 3) : ncut σ' = ncut σ := by
  unfold ncut
  congr 1
  funext k
  simp only [ne_eq, h k]
theorem setF_ok : ∀ (f : Nat) (σ : Nat → Nat → Int32), RI σ → RI (setF f σ).1 := by
  intro f
  induction f with
  | zero => exact fun σ h => h
  | succ f ih =>
    intro σ h
    obtain ⟨g1, -⟩ := blkF_ok 40 σ 0 h (fun k _ hb => by rw [b_0] at hb; cases hb)
    rw [setF]
    split
    · exact g1
    · exact ih _ (g1.cut _)

