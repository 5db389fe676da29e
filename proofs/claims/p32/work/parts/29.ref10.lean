
theorem evP_ne {σ σ' : Nat → Nat → Int32} (h1 : ∀ j, σ' 88 j = σ 88 j) (h2 : ∀ j, σ' 90 j = σ 90 j) (h3 : ∀ j, σ' 96 j = σ 96 j) (w : Nat → Nat) (n : Nat) : evP σ' w n = evP σ w n := by
  induction n with
  | zero => rfl
  | succ n ih => simp only [evP, evS, opnd, ih, h1, h2, h3]
/-- the same but for values, dirt and the object's own numbers -/
def zsm (σ σ' : Nat → Nat → Int32) : Prop := ∀ b j, b ≠ 88 → b ≠ 89 → b ≠ 67 → σ' b j = σ b j
theorem zsm_refl (σ : Nat → Nat → Int32) : zsm σ σ := fun _ _ _ _ _ => rfl
theorem zsm_trans {a b c : Nat → Nat → Int32} (h1 : zsm a b) (h2 : zsm b c) : zsm a c := fun x j p q r => (h2 x j p q r).trans (h1 x j p q r)
def DepthOK (σ : Nat → Nat → Int32) : Prop := ∀ k j, k < 12 → j < 12 → bt (σ 76 k) j = true → σ 79 j < σ 79 k
theorem DepthOK.mv {σ σ' : Nat → Nat → Int32} (h : DepthOK σ) (e : zsm σ σ') : DepthOK σ' := fun k j hk hj hb => by
  rw [e _ _ (by decide) (by decide) (by decide)] at hb
  rw [e _ _ (by decide) (by decide) (by decide), e _ _ (by decide) (by decide) (by decide)]
  exact h k j hk hj hb
theorem WFc_mv {σ σ' : Nat → Nat → Int32} {c : Nat} (h : WFc σ c) (e1 : ∀ j, σ' 74 j = σ 74 j) (e2 : ∀ j, σ' 75 j = σ 75 j) : WFc σ' c := by
  unfold WFc cdw cdn at *
  simp only [e1, e2]
  exact h
/-- one cell is worked out -/
def wkS (σ : Nat → Nat → Int32) (c : Nat) : Nat → Nat → Int32 :=
  becomeF (zu (zu (zu σ 89 c 0) 67 33 (σ 67 33 + 1)) 67 44 1) c (worthN (zu (zu σ 89 c 0) 67 33 (σ 67 33 + 1)) c)
def wkI (σ : Nat → Nat → Int32) : Nat → Nat → Nat → Int32
  | 0 => σ
  | n + 1 => match ndP σ 12 with
    | none => σ
    | some c => wkI (wkS σ c) n
def worksF (σ : Nat → Nat → Int32) : Nat → Nat → Int32 := wkI σ 12
theorem soilF_sm (σ : Nat → Nat → Int32) (rk w : Nat) {b : Nat} (h : b ≠ 89) (j : Nat) : soilF σ rk w b j = σ b j := soilF_ne σ rk w h j
theorem becomeF_ne (σ : Nat → Nat → Int32) (c : Nat) (v : Int32) {b : Nat} (h1 : b ≠ 88) (h2 : b ≠ 89) (j : Nat) : becomeF σ c v b j = σ b j := by
  unfold becomeF
  split
  · rfl
  · rw [soilF_ne _ _ _ h2]; simp [zu, h1]
theorem wkS_sm (σ : Nat → Nat → Int32) (c : Nat) : zsm σ (wkS σ c) := by
  intro b j h1 h2 h3
  unfold wkS
  rw [becomeF_ne _ _ _ h1 h2]
  simp [zu, h2, h3]
theorem wkI_sm (n : Nat) : ∀ σ : Nat → Nat → Int32, zsm σ (wkI σ n) := by
  induction n with
  | zero => exact fun σ => zsm_refl σ
  | succ n ih =>
    intro σ
    unfold wkI
    split
    · exact zsm_refl σ
    · exact zsm_trans (wkS_sm σ _) (ih _)
/-- the order in which cells are worked out -/
def kle (σ : Nat → Nat → Int32) (y x : Nat) : Prop := σ 79 y < σ 79 x ∨ (σ 79 y = σ 79 x ∧ y ≤ x)
theorem kle_refl (σ : Nat → Nat → Int32) (x : Nat) : kle σ x x := Or.inr ⟨rfl, Nat.le_refl x⟩
theorem kle_trans {σ : Nat → Nat → Int32} {x y z : Nat} (h1 : kle σ x y) (h2 : kle σ y z) : kle σ x z := by
  unfold kle at *
  simp only [Int32.lt_iff_toInt_lt, ← Int32.toInt_inj] at *
  omega
theorem kle_anti {σ : Nat → Nat → Int32} {x y : Nat} (h1 : kle σ x y) (h2 : kle σ y x) : x = y := by
  unfold kle at *
  simp only [Int32.lt_iff_toInt_lt, ← Int32.toInt_inj] at *
  omega
theorem kle_total (σ : Nat → Nat → Int32) (x y : Nat) : kle σ x y ∨ kle σ y x := by
  unfold kle
  simp only [Int32.lt_iff_toInt_lt, ← Int32.toInt_inj]
  omega
theorem ndP_none {σ : Nat → Nat → Int32} : ∀ {n : Nat}, ndP σ n = none → ∀ y, y < n → σ 89 y = 0 := by
  intro n
  induction n with
  | zero => intro _ y hy; omega
  | succ n ih =>
    intro h y hy
    unfold ndP at h
    split at h
    · rename_i hn
      split at h
      · cases h
      · rename_i q
        by_cases e : y = n
        · subst e; exact Classical.not_not.mp q
        · exact ih hn y (by omega)
    · split at h <;> cases h
theorem ndP_some {σ : Nat → Nat → Int32} : ∀ {n c : Nat}, ndP σ n = some c → c < n ∧ σ 89 c ≠ 0 ∧ ∀ y, y < n → σ 89 y ≠ 0 → kle σ c y := by
  intro n
  induction n with
  | zero => intro c h; cases h
  | succ n ih =>
    intro c h
    unfold ndP at h
    split at h
    · rename_i hn
      split at h
      · rename_i q
        cases h
        refine ⟨by omega, q, fun y hy hd => ?_⟩
        by_cases e : y = n
        · subst e; exact kle_refl σ y
        · exact absurd (ndP_none hn y (by omega)) hd
      · cases h
    · rename_i f hf
      obtain ⟨h1, h2, h3⟩ := ih hf
      split at h
      · rename_i q
        cases h
        refine ⟨by omega, q.1, fun y hy hd => ?_⟩
        by_cases e : y = n
        · subst e; exact kle_refl σ y
        · exact kle_trans (Or.inl q.2) (h3 y (by omega) hd)
      · rename_i q
        cases h
        refine ⟨by omega, h2, fun y hy hd => ?_⟩
        by_cases e : y = n
        · subst e
          unfold kle
          have : ¬ (σ 79 y < σ 79 c) := fun z => q ⟨hd, z⟩
          simp only [Int32.lt_iff_toInt_lt, ← Int32.toInt_inj] at *
          omega
        · exact h3 y (by omega) hd
theorem ndP_of {σ : Nat → Nat → Int32} {n c : Nat} (h1 : c < n) (h2 : σ 89 c ≠ 0) (h3 : ∀ y, y < n → σ 89 y ≠ 0 → kle σ c y) : ndP σ n = some c := by
  cases h : ndP σ n with
  | none => exact absurd (ndP_none h c h1) h2
  | some d =>
    obtain ⟨q1, q2, q3⟩ := ndP_some h
    rw [kle_anti (h3 d q1 q2) (q3 c h1 h2)]
theorem ndP_of0 {σ : Nat → Nat → Int32} {n : Nat} (h : ∀ y, y < n → σ 89 y = 0) : ndP σ n = none := by
  cases hq : ndP σ n with
  | none => rfl
  | some d => exact absurd (h d (ndP_some hq).1) (ndP_some hq).2.1
/-- what is dirty behind the working out of the least dirty cell comes behind it -/
theorem wkS_dirty {σ : Nat → Nat → Int32} (hD : DepthOK σ) {c : Nat} (hc : ndP σ 12 = some c) {y : Nat} (hy : y < 12) (hd : wkS σ c 89 y ≠ 0) : kle σ c y ∧ y ≠ c := by
  obtain ⟨q1, q2, q3⟩ := ndP_some hc
  unfold wkS becomeF at hd
  have base : zu (zu (zu σ 89 c 0) 67 33 (σ 67 33 + 1)) 67 44 1 89 y ≠ 0 → kle σ c y ∧ y ≠ c := by
    intro h
    simp only [zu] at h
    by_cases e : y = c
    · subst e; simp at h
    · simp [e] at h
      exact ⟨q3 y hy h, e⟩
  split at hd
  · exact base hd
  · rw [soilF_at _ _ _ hy] at hd
    simp only [ne_eq, zbi_0, Bool.or_eq_false_iff, Classical.not_and_iff_not_or_not, Bool.not_eq_false, decide_eq_true_eq, Bool.and_eq_true] at hd
    rcases hd with hd | hd
    · apply base
      simpa [zu] using hd
    · have hr : bt (σ 76 y) c = true := by simpa [zu] using hd.2
      have := hD y c hy q1 hr
      refine ⟨Or.inl this, fun e => ?_⟩
      subst e
      simp only [Int32.lt_iff_toInt_lt] at this
      omega
def upB (σ : Nat → Nat → Int32) (x : Nat) : Bool := (List.range 12).any fun y => decide (σ 89 y ≠ 0) && (decide (σ 79 y < σ 79 x) || (decide (σ 79 y = σ 79 x) && decide (y ≤ x)))
theorem upB_iff {σ : Nat → Nat → Int32} {x : Nat} : upB σ x = true ↔ ∃ y, y < 12 ∧ σ 89 y ≠ 0 ∧ kle σ y x := by
  unfold upB kle
  rw [List.any_eq_true]
  constructor
  · rintro ⟨y, hy, h⟩
    rw [Bool.and_eq_true, decide_eq_true_eq, Bool.or_eq_true, Bool.and_eq_true, decide_eq_true_eq, decide_eq_true_eq, decide_eq_true_eq] at h
    exact ⟨y, List.mem_range.mp hy, h.1, h.2⟩
  · rintro ⟨y, hy, h1, h2⟩
    refine ⟨y, List.mem_range.mpr hy, ?_⟩
    rw [Bool.and_eq_true, decide_eq_true_eq, Bool.or_eq_true, Bool.and_eq_true, decide_eq_true_eq, decide_eq_true_eq, decide_eq_true_eq]
    exact ⟨h1, h2⟩
def kcn (σ : Nat → Nat → Int32) : Nat := (List.range 12).countP (upB σ)
theorem countP_lt {α : Type} {p q : α → Bool} {l : List α} (h : ∀ x ∈ l, p x = true → q x = true) {a : α} (ha : a ∈ l) (h1 : q a = true) (h2 : p a = false) : l.countP p < l.countP q := by
  induction l with
  | nil => cases ha
  | cons b l ih =>
    rw [List.countP_cons, List.countP_cons]
    have hle : l.countP p ≤ l.countP q := List.countP_mono_left fun x hx => h x (List.mem_cons_of_mem _ hx)
    rcases List.mem_cons.mp ha with rfl | ha
    · rw [if_pos h1, if_neg (by rw [h2]; decide)]; omega
    · have := ih (fun x hx => h x (List.mem_cons_of_mem _ hx)) ha
      have hb := h b List.mem_cons_self
      by_cases e : p b = true
      · rw [if_pos e, if_pos (hb e)]; omega
      · rw [if_neg e]; split <;> omega
theorem kcn_le (σ : Nat → Nat → Int32) : kcn σ ≤ 12 := by
  have := List.countP_le_length (p := upB σ) (l := List.range 12)
  rwa [List.length_range] at this
theorem kcn_lt {σ : Nat → Nat → Int32} (hD : DepthOK σ) {c : Nat} (hc : ndP σ 12 = some c) : kcn (wkS σ c) < kcn σ := by
  obtain ⟨q1, q2, q3⟩ := ndP_some hc
  have he : ∀ x y, kle (wkS σ c) x y ↔ kle σ x y := by
    intro x y
    unfold kle
    rw [wkS_sm σ c 79 x (by decide) (by decide) (by decide), wkS_sm σ c 79 y (by decide) (by decide) (by decide)]
  refine countP_lt (a := c) (fun x hx hp => ?_) (List.mem_range.mpr q1) ?_ ?_
  · obtain ⟨y, hy, hd, hk⟩ := upB_iff.mp hp
    exact upB_iff.mpr ⟨c, q1, q2, kle_trans (wkS_dirty hD hc hy hd).1 ((he y x).mp hk)⟩
  · exact upB_iff.mpr ⟨c, q1, q2, kle_refl σ c⟩
  · rw [Bool.eq_false_iff]
    intro hu
    obtain ⟨y, hy, hd, hk⟩ := upB_iff.mp hu
    obtain ⟨h1, h2⟩ := wkS_dirty hD hc hy hd
    exact h2 (kle_anti ((he y c).mp hk) h1)
theorem wkI_none {σ : Nat → Nat → Int32} (h : ndP σ 12 = none) (n : Nat) : wkI σ n = σ := by
  cases n with
  | zero => rfl
  | succ n => unfold wkI; rw [h]
theorem wkI_some {σ : Nat → Nat → Int32} {c : Nat} (h : ndP σ 12 = some c) (n : Nat) : wkI σ (n + 1) = wkI (wkS σ c) n := by
  rw [wkI, h]
theorem kcn_0 {σ : Nat → Nat → Int32} (h : kcn σ = 0) : ndP σ 12 = none := by
  cases hq : ndP σ 12 with
  | none => rfl
  | some c =>
    obtain ⟨q1, q2, q3⟩ := ndP_some hq
    unfold kcn at h
    rw [List.countP_eq_zero] at h
    exact absurd (upB_iff.mpr ⟨c, q1, q2, kle_refl σ c⟩) (h c (List.mem_range.mpr q1))
/-- behind it no cell is dirty -/
theorem wkI_clean : ∀ (n : Nat) (σ : Nat → Nat → Int32), DepthOK σ → kcn σ ≤ n → ∀ y, y < 12 → wkI σ n 89 y = 0 := by
  intro n
  induction n with
  | zero =>
    intro σ hD h y hy
    exact ndP_none (kcn_0 (Nat.le_zero.mp h)) y hy
  | succ n ih =>
    intro σ hD h y hy
    cases hq : ndP σ 12 with
    | none => rw [wkI_none hq]; exact ndP_none hq y hy
    | some c =>
      rw [wkI_some hq]
      exact ih _ (hD.mv (wkS_sm σ c)) (by have := kcn_lt hD hq; omega) y hy

