
/-- the readings of this tick told anew -/
def raF (σ : Nat → Nat → Int32) : Nat → Nat → Nat → Int32
  | 0 => σ
  | k + 1 => if raF σ k 98 k = 3 ∧ raF σ k 102 k = raF σ k 67 34 then (setF 6 (readF (raF σ k) (stC (raF σ k) k) (raF σ k 100 k))).1 else raF σ k
theorem raF_k (σ : Nat → Nat → Int32) (n : Nat) : zkf σ (raF σ n) := by
  induction n with
  | zero => exact zkf_refl σ
  | succ n ih =>
    simp only [raF]
    split
    · exact zkf_trans (zkf_trans ih (readF_k _ _ _)) (setF_k 6 _)
    · exact ih
theorem raF_ok {σ : Nat → Nat → Int32} (h : RI σ) (n : Nat) : RI (raF σ n) := by
  induction n with
  | zero => exact h
  | succ n ih =>
    simp only [raF]
    split
    · exact setF_ok 6 _ (ih.read _ _)
    · exact ih
theorem stepV_c {σ : Nat → Nat → Int32} {k : Nat} (h : stepV σ k) (h3 : σ 98 k = 3) : stC σ k < 5 ∧ σ 99 k = nI (stC σ k) := by
  rcases h with h | h | ⟨⟨j, j4, j9, e⟩, h⟩ | h
  · rcases h.1 with q | q | q <;> (rw [q] at h3; exact absurd h3 (by decide))
  · exact h.2
  · rw [e] at h3; exact absurd ((nI_eq (b := 3) (by omega) (by decide)).mp h3) (by omega)
  · rw [h.1] at h3; exact absurd h3 (by decide)
theorem raF_f (σ : Nat → Nat → Int32) {n : Nat} (hV : ∀ k, k < n → stepV σ k) : zof σ (raF σ n) := by
  induction n with
  | zero => exact zof_refl σ
  | succ n ih =>
    have h1 := ih (fun k hk => hV k (by omega))
    simp only [raF]
    split
    · rename_i q
      have hv := stepV_mv (raF_k σ n) (hV n (by omega))
      exact zof_trans (zof_trans h1 (readF_f _ (stepV_c hv q.1).1 _)) (setF_f 6 _)
    · exact h1
theorem RI.clear {σ : Nat → Nat → Int32} (h : RI σ) : RI (clearF σ) := by
  refine RI_same h (fun b hb j => ?_) (fun k hk h3 => ?_)
  · simp only [List.mem_cons, List.not_mem_nil, or_false] at hb
    rcases hb with rfl | rfl | rfl | rfl | rfl | rfl <;> simp [clearF, clS, clP, zu]
  · simp [clearF, clS, zu, hk] at h3
/-- a trial: its beginning, ticks, its end -/
def tr0 (σ : Nat → Nat → Int32) (E : Nat) : Nat → Nat → Int32 := (setF 6 (clearF (zu σ 67 34 (nI (E - 23))))).1
def trL (σ : Nat → Nat → Int32) (E n : Nat) : Nat → Nat → Nat → Int32
  | 0 => tr0 σ E
  | d + 1 => (setF 6 (nowF (raF (trL σ E n d) n))).1
def trF (σ : Nat → Nat → Int32) (E n : Nat) : Nat → Nat → Int32 := raF (trL σ E n (E - (E - 23))) n
theorem tr0_k (σ : Nat → Nat → Int32) (E : Nat) : zkf σ (tr0 σ E) := by
  refine zkf_trans (zkf_trans (b := zu σ 67 34 (nI (E - 23))) ?_ (clearF_k _)) (setF_k 6 _)
  intro b j h
  simp only [zu, h.2.2.1, if_false]
theorem trL_k (σ : Nat → Nat → Int32) (E n d : Nat) : zkf σ (trL σ E n d) := by
  induction d with
  | zero => exact tr0_k σ E
  | succ d ih => exact zkf_trans (zkf_trans (zkf_trans ih (raF_k _ n)) (nowF_k _)) (setF_k 6 _)
theorem trF_k (σ : Nat → Nat → Int32) (E n : Nat) : zkf σ (trF σ E n) := zkf_trans (trL_k σ E n _) (raF_k _ n)
theorem trL_ok {σ : Nat → Nat → Int32} (h : RI σ) (E n d : Nat) : RI (trL σ E n d) := by
  induction d with
  | zero => exact setF_ok 6 _ (RI.clear (h.now _ _))
  | succ d ih => exact setF_ok 6 _ ((raF_ok ih n).now _ _)
theorem trF_ok {σ : Nat → Nat → Int32} (h : RI σ) (E n : Nat) : RI (trF σ E n) := raF_ok (trL_ok h E n _) n
theorem trL_f (σ : Nat → Nat → Int32) (E : Nat) {n : Nat} (hV : ∀ k, k < n → stepV σ k) (d : Nat) : zof σ (trL σ E n d) := by
  induction d with
  | zero => exact zof_trans (zof_trans (zof_u σ _ _ _ (zout_n (by decide))) (clearF_f _)) (setF_f 6 _)
  | succ d ih =>
    exact zof_trans (zof_trans (zof_trans ih (raF_f _ (fun k hk => stepV_mv (trL_k σ E n d) (hV k hk)))) (zof_u _ _ _ _ (zout_n (by decide)))) (setF_f 6 _)
theorem trF_f (σ : Nat → Nat → Int32) (E : Nat) {n : Nat} (hV : ∀ k, k < n → stepV σ k) : zof σ (trF σ E n) :=
  zof_trans (trL_f σ E hV _) (raF_f _ (fun k hk => stepV_mv (trL_k σ E n _) (hV k hk)))
/-- behind a trial all is as before, but for what nobody looks at -/
theorem RV.trial {n : Nat} {σ : Nat → Nat → Int32} (h : RV n σ) (E : Nat) : RW n (trF σ E n) ∧ zq n σ (rpF (trF σ E n) n) := by
  have ho := trF_f σ E h.2.2.1
  have hs : zst n σ (trF σ E n) := zst_k (trF_k σ E n)
  refine ⟨h.rw.mv (Nat.le_refl n) ho hs ((zkf_m (trF_k σ E n) 42 (by decide)).trans h.2.1), ?_⟩
  exact zq_trans (zq_symm h.same) (rpF_q ho hs h.2.2.1 n (Nat.le_refl n))
theorem RV.rw1 {n : Nat} {σ : Nat → Nat → Int32} (h : RV (n + 1) σ) : RW n (zu σ 67 42 (nI n)) := by
  refine h.rw.mv (Nat.le_succ n) (zof_u σ _ _ _ (zout_n (by decide))) ⟨fun b hb k hk => ?_, fun k hk i hi => ?_⟩ (zu_eq _ _ _ _)
  · exact zu_ne _ _ _ _ (by rintro rfl; revert hb; decide) k
  · exact zu_ne _ _ _ _ (by decide) _
/-! the tick -/
theorem soilF_now (σ : Nat → Nat → Int32) (ra w : Nat) : soilF σ ra w 67 34 = σ 67 34 := soilF_ne _ _ _ (by decide) _
theorem becomeF_now (σ : Nat → Nat → Int32) (c : Nat) (v : Int32) : becomeF σ c v 67 34 = σ 67 34 := becomeF_ne _ _ _ (by decide) (by decide) _
theorem tellF_now (σ : Nat → Nat → Int32) (c : Nat) (v : Int32) : tellF σ c v 67 34 = σ 67 34 := tellF_ne _ _ _ (by decide) (by decide) _
theorem wkI_now (k : Nat) : ∀ σ : Nat → Nat → Int32, wkI σ k 67 34 = σ 67 34 := by
  induction k with
  | zero => exact fun _ => rfl
  | succ k ih =>
    intro σ
    unfold wkI
    cases ndP σ 12 with
    | none => rfl
    | some c =>
      show wkI (wkS σ c) k 67 34 = _
      rw [ih]
      unfold wkS
      rw [becomeF_now]
      simp [zu]
theorem rdP_now (σ : Nat → Nat → Int32) (k : Nat) : rdP σ k 67 34 = σ 67 34 := by
  induction k with
  | zero => rfl
  | succ k ih =>
    refine Eq.trans ?_ ih
    show rdS (rdP σ k) k 67 34 = _
    generalize rdP σ k = S
    unfold rdS rdL
    rw [tellF_now, zu_ne _ _ _ _ (by decide)]
    unfold rdC changeF runF
    repeat' split
    all_goals simp [zu]
theorem roundF_now (σ : Nat → Nat → Int32) : roundF σ 67 34 = σ 67 34 := (rdP_now _ 5).trans (wkI_now 12 σ)
theorem blkF_now (r : Nat) : ∀ (σ : Nat → Nat → Int32) late, (blkF r σ late).1 67 34 = σ 67 34 := by
  induction r with
  | zero => exact fun _ _ => rfl
  | succ r ih =>
    intro σ late
    by_cases e : maskF σ = 0
    · rw [blkF_0 late e]
      dsimp only
      exact roundF_now σ
    · rw [blkF_1 late e]
      dsimp only
      have h1 := roundF_now σ
      generalize roundF σ = R at h1 ⊢
      rw [ih R, h1]
theorem setF_now (f : Nat) : ∀ σ : Nat → Nat → Int32, (setF f σ).1 67 34 = σ 67 34 := by
  induction f with
  | zero => exact fun _ => rfl
  | succ f ih =>
    intro σ
    have h1 := blkF_now 40 σ 0
    unfold setF
    split
    · exact h1
    · dsimp only
      rw [ih]
      unfold cutF
      rw [tellF_now, zu_ne _ _ _ _ (by decide), zu_ne _ _ _ _ (by decide), h1]
theorem raF_now (σ : Nat → Nat → Int32) (n : Nat) : raF σ n 67 34 = σ 67 34 := by
  induction n with
  | zero => rfl
  | succ n ih =>
    simp only [raF]
    split
    · rw [setF_now, readF_ne _ _ _ (by decide), ih]
    · exact ih
theorem trL_now {σ : Nat → Nat → Int32} (E n d : Nat) : trL σ E n d 67 34 = nI (E - 23 + d) := by
  induction d with
  | zero =>
    show (setF 6 (clearF (zu σ 67 34 (nI (E - 23))))).1 67 34 = _
    rw [setF_now]
    simp [clearF, clS, clP, zu]
  | succ d ih =>
    show (setF 6 (nowF (raF (trL σ E n d) n))).1 67 34 = _
    rw [setF_now]
    unfold nowF
    rw [zu_eq, raF_now, ih]
    exact nI_1 _

