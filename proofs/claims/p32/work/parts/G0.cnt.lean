/-! ===== how many rounds, starts and workings there are ===== -/
theorem blkF_n : ∀ (r : Nat) (σ : zS2) (late : Int32), (blkF r σ late).2.1 ≤ r ∧ (0 < r → 1 ≤ (blkF r σ late).2.1) := by
  intro r
  induction r with
  | zero => intro σ late; exact ⟨Nat.le_refl 0, fun h => absurd h (by omega)⟩
  | succ r ih =>
    intro σ late
    by_cases h : maskF σ = 0
    · rw [blkF_0 late h]
      exact ⟨by dsimp only; omega, fun _ => Nat.le_refl 1⟩
    · rw [blkF_1 late h]
      dsimp only
      have := (ih (roundF σ) (late ||| (if r < 12 then maskF σ else 0))).1
      exact ⟨by omega, fun _ => by omega⟩
theorem ncut_le (σ : zS2) : ncut σ ≤ 5 := by
  have h : ncut σ ≤ (List.range 5).length := List.countP_le_length
  rw [List.length_range] at h
  exact h
theorem setF_n : ∀ (f : Nat) (σ : zS2), RI σ → (setF f σ).2 + 40 * ncut (setF f σ).1 ≤ 40 * (ncut σ + 1) := by
  intro f
  induction f with
  | zero => intro σ _; rw [setF]; dsimp only; omega
  | succ f ih =>
    intro σ h
    obtain ⟨g1, g2, g3, g4⟩ := blkF_ok 40 σ 0 h (fun k _ hb => by rw [b_0] at hb; cases hb)
    have hn := (blkF_n 40 σ 0).1
    have hc := ncut_eq g2
    rw [setF]
    split
    · dsimp only
      generalize (blkF 40 σ 0).2.1 = x at hn ⊢
      generalize ncut (blkF 40 σ 0).1 = y at hc ⊢
      omega
    · rename_i q
      dsimp only
      obtain ⟨k, hk, hb⟩ := g4 (by cases hx : (blkF 40 σ 0).2.2.1 with
        | true => rfl
        | false => exact absurd hx q) (Or.inl (by decide))
      obtain ⟨l1, l2, -⟩ := lowN_ok ⟨k, hk, hb⟩
      have h3 := (g3 _ (by omega) l2).2
      have h4 := ncut_cut (σ := (blkF 40 σ 0).1) l1 (fun z => h3 ((g2 _).mp z))
      have h5 := ih _ (g1.cut (lowN (blkF 40 σ 0).2.2.2))
      generalize setF f (cutF (blkF 40 σ 0).1 (lowN (blkF 40 σ 0).2.2.2)) = s at h5 ⊢
      generalize ncut (cutF (blkF 40 σ 0).1 (lowN (blkF 40 σ 0).2.2.2)) = t at h4 h5
      generalize (blkF 40 σ 0).2.1 = x at hn ⊢
      generalize ncut (blkF 40 σ 0).1 = y at hc h4
      generalize ncut s.1 = z at h5 ⊢
      generalize s.2 = u at h5 ⊢
      omega
theorem setF_1 (f : Nat) (σ : zS2) : 1 ≤ (setF (f + 1) σ).2 := by
  have := (blkF_n 40 σ 0).2 (by decide)
  rw [setF]
  split
  · exact this
  · dsimp only
    omega
theorem setF_240 {σ : zS2} (h : RI σ) (f : Nat) : (setF f σ).2 ≤ 240 := by
  have h1 := setF_n f σ h
  have h2 := ncut_le σ
  omega
/-! starts of one service -/
def S1 (j B : Nat) (σ : zS2) : Prop := ∃ a, a ≤ B ∧ σ 97 j = nI a ∧ (σ 92 j = 2 → 1 ≤ a)
theorem S1.up {j B B' : Nat} {σ : zS2} (h : S1 j B σ) (hb : B ≤ B') : S1 j B' σ := by
  obtain ⟨a, h1, h2, h3⟩ := h
  exact ⟨a, by omega, h2, h3⟩
theorem S1.same {j B : Nat} {σ σ' : zS2} (h : S1 j B σ) (h1 : σ' 97 j = σ 97 j) (h2 : σ' 92 j = 2 → σ 92 j = 2) : S1 j B σ' := by
  obtain ⟨a, a1, a2, a3⟩ := h
  exact ⟨a, a1, h1.trans a2, fun z => a3 (h2 z)⟩
theorem S1.one {j B : Nat} {σ σ' : zS2} (h : S1 j B σ) (h1 : σ' 97 j = σ 97 j + 1) : S1 j (B + 1) σ' := by
  obtain ⟨a, a1, a2, a3⟩ := h
  refine ⟨a + 1, by omega, ?_, fun _ => by omega⟩
  rw [h1, a2]
  exact nI_add a 1
theorem changeF_si (σ : zS2) (k : Nat) : (changeF σ k 97 k = σ 97 k ∧ (changeF σ k 92 k = 2 → σ 92 k = 2)) ∨ changeF σ k 97 k = σ 97 k + 1 := by
  have z0 : ¬ ((0 : Int32) = 2) := by decide
  have z1 : ¬ ((1 : Int32) = 2) := by decide
  unfold changeF runF
  repeat' split
  all_goals simp [zu, z0, z1]
theorem changeF_nj (σ : zS2) (k : Nat) {j : Nat} (hj : j ≠ k) : changeF σ k 97 j = σ 97 j ∧ changeF σ k 92 j = σ 92 j := by
  unfold changeF runF
  repeat' split
  all_goals simp [zu, hj]
theorem S1.c1 {j B k : Nat} {σ : zS2} (h : S1 j B σ) : S1 j (if j = k then B + 1 else B) (rdC σ k) := by
  unfold rdC
  by_cases e : j = k
  · subst e
    rw [if_pos rfl]
    split
    · exact h.up (by omega)
    · rcases changeF_si σ j with ⟨h1, h2⟩ | h1
      · exact (h.same h1 h2).up (by omega)
      · exact h.one h1
  · rw [if_neg e]
    split
    · exact h
    · obtain ⟨h1, h2⟩ := changeF_nj σ k e
      exact h.same h1 (fun z => h2.symm.trans z)
theorem rdS_9 (σ : zS2) (k : Nat) {b : Nat} (hb : b ≠ 95 ∧ b ≠ 96 ∧ b ≠ 89) (j : Nat) : rdS σ k b j = rdC σ k b j := by
  unfold rdS rdL
  rw [tellF_ne _ _ _ hb.2.1 hb.2.2]
  simp [zu, hb.1]
theorem S1.p1 {j B : Nat} {σ : zS2} (h : S1 j B σ) : ∀ n, S1 j (if j < n then B + 1 else B) (rdP σ n) := by
  intro n
  induction n with
  | zero => rw [if_neg (by omega)]; exact h
  | succ n ih =>
    have h1 := ih.c1 (k := n)
    refine S1.same (σ := rdC (rdP σ n) n) (h1.up ?_) (rdS_9 _ _ (by decide) j) (fun z => (rdS_9 _ _ (by decide) j).symm.trans z)
    by_cases q1 : j < n
    · rw [if_pos q1, if_neg (by omega), if_pos (by omega)]; exact Nat.le_refl _
    · rw [if_neg q1]
      by_cases q2 : j = n
      · rw [if_pos q2, if_pos (by omega)]; exact Nat.le_refl _
      · rw [if_neg q2, if_neg (by omega)]; exact Nat.le_refl _
theorem S1.round {j B : Nat} {σ : zS2} (h : S1 j B σ) : S1 j (B + 1) (roundF σ) := by
  have h1 : S1 j B (worksF σ) := h.same (worksF_at _ _ (by decide) j) (fun z => (worksF_at _ _ (by decide) j).symm.trans z)
  exact (h1.p1 5).up (by split <;> omega)
theorem S1.cut {j B : Nat} {σ : zS2} (h : S1 j B σ) (k : Nat) : S1 j B (cutF σ k) := by
  refine h.same ?_ (fun z => ?_)
  · unfold cutF
    rw [tellF_ne _ _ _ (by decide) (by decide)]
    simp [zu]
  · rw [cutF_st] at z
    split at z
    · exact absurd z (by decide)
    · exact z
theorem S1.blk {j : Nat} : ∀ (r : Nat) {B : Nat} {σ : zS2} (late : Int32), S1 j B σ → S1 j (B + (blkF r σ late).2.1) (blkF r σ late).1 := by
  intro r
  induction r with
  | zero => intro B σ late h; exact h
  | succ r ih =>
    intro B σ late h
    by_cases hm : maskF σ = 0
    · rw [blkF_0 late hm]
      dsimp only
      exact h.round
    · rw [blkF_1 late hm]
      dsimp only
      have h2 := ih (late ||| (if r < 12 then maskF σ else 0)) h.round
      generalize blkF r (roundF σ) (late ||| (if r < 12 then maskF σ else 0)) = s at h2 ⊢
      rw [Nat.add_assoc, Nat.add_comm 1] at h2
      exact h2
theorem S1.set {j : Nat} : ∀ (f : Nat) {B : Nat} {σ : zS2}, S1 j B σ → S1 j (B + (setF f σ).2) (setF f σ).1 := by
  intro f
  induction f with
  | zero => intro B σ h; exact h
  | succ f ih =>
    intro B σ h
    have h1 := S1.blk 40 0 h
    rw [setF]
    split
    · exact h1
    · dsimp only
      have h2 := ih (h1.cut (lowN (blkF 40 σ 0).2.2.2))
      generalize setF f (cutF (blkF 40 σ 0).1 (lowN (blkF 40 σ 0).2.2.2)) = s at h2 ⊢
      rw [Nat.add_assoc] at h2
      exact h2
/-! workings -/
def Wd (r : Nat) (σ σ' : zS2) : Prop := ∃ d, d ≤ r ∧ σ' 67 33 = σ 67 33 + nI d
theorem Wd.z {σ σ' : zS2} (h : σ' 67 33 = σ 67 33) : Wd 0 σ σ' := ⟨0, Nat.le_refl 0, by rw [h]; show _ = _ + (0 : Int32); rw [Int32.add_zero]⟩
theorem Wd.tr {a b : Nat} {σ σ1 σ2 : zS2} (h : Wd a σ σ1) (h2 : Wd b σ1 σ2) : Wd (a + b) σ σ2 := by
  obtain ⟨d, d1, d2⟩ := h
  obtain ⟨e, e1, e2⟩ := h2
  exact ⟨d + e, by omega, by rw [e2, d2, Int32.add_assoc, nI_add]⟩
theorem Wd.up {a b : Nat} {σ σ1 : zS2} (h : Wd a σ σ1) (hb : a ≤ b) : Wd b σ σ1 := by
  obtain ⟨d, d1, d2⟩ := h
  exact ⟨d, by omega, d2⟩
theorem Wd.wk (σ : zS2) (c : Nat) : Wd 1 σ (wkS σ c) := by
  refine ⟨1, Nat.le_refl 1, ?_⟩
  unfold wkS
  rw [becomeF_ne _ _ _ (by decide) (by decide)]
  simp only [zu, show ¬ (67 : Nat) = 89 by decide, show ¬ (33 : Nat) = 44 by decide, false_and, and_false, if_false, and_self, if_true]
  rfl
theorem Wd.wki : ∀ (n : Nat) (σ : zS2), Wd n σ (wkI σ n) := by
  intro n
  induction n with
  | zero => intro σ; exact Wd.z rfl
  | succ n ih =>
    intro σ
    unfold wkI
    split
    · exact (Wd.z rfl).up (by omega)
    · rename_i c _
      exact ((Wd.wk σ c).tr (ih _)).up (by omega)
theorem changeF_67 (σ : zS2) (k j : Nat) : changeF σ k 67 j = σ 67 j := by
  unfold changeF runF
  repeat' split
  all_goals simp [zu]
theorem rdC_67 (σ : zS2) (k j : Nat) : rdC σ k 67 j = σ 67 j := by
  unfold rdC
  split
  · rfl
  · exact changeF_67 σ k j
theorem rdP_67 (σ : zS2) (n j : Nat) : rdP σ n 67 j = σ 67 j := by
  induction n with
  | zero => rfl
  | succ n ih => exact (rdS_9 _ _ (by decide) j).trans ((rdC_67 _ _ _).trans ih)
theorem Wd.round (σ : zS2) : Wd 12 σ (roundF σ) := (Wd.wki 12 σ).tr (Wd.z (σ := worksF σ) (rdP_67 _ 5 33))
theorem cutF_67 (σ : zS2) (k j : Nat) : cutF σ k 67 j = σ 67 j := by
  unfold cutF
  rw [tellF_ne _ _ _ (by decide) (by decide)]
  simp [zu]
theorem Wd.blk : ∀ (r : Nat) (σ : zS2) (late : Int32), Wd (12 * (blkF r σ late).2.1) σ (blkF r σ late).1 := by
  intro r
  induction r with
  | zero => intro σ late; exact Wd.z rfl
  | succ r ih =>
    intro σ late
    by_cases hm : maskF σ = 0
    · rw [blkF_0 late hm]
      dsimp only
      exact Wd.round σ
    · rw [blkF_1 late hm]
      dsimp only
      have h2 := ih (roundF σ) (late ||| (if r < 12 then maskF σ else 0))
      generalize blkF r (roundF σ) (late ||| (if r < 12 then maskF σ else 0)) = s at h2 ⊢
      exact ((Wd.round σ).tr h2).up (by omega)
theorem Wd.set : ∀ (f : Nat) (σ : zS2), Wd (12 * (setF f σ).2) σ (setF f σ).1 := by
  intro f
  induction f with
  | zero => intro σ; exact Wd.z rfl
  | succ f ih =>
    intro σ
    have h1 := Wd.blk 40 σ 0
    rw [setF]
    split
    · exact h1
    · dsimp only
      have h2 := ih (cutF (blkF 40 σ 0).1 (lowN (blkF 40 σ 0).2.2.2))
      have h3 := Wd.z (cutF_67 (blkF 40 σ 0).1 (lowN (blkF 40 σ 0).2.2.2) 33)
      generalize setF f (cutF (blkF 40 σ 0).1 (lowN (blkF 40 σ 0).2.2.2)) = s at h2 ⊢
      generalize cutF (blkF 40 σ 0).1 (lowN (blkF 40 σ 0).2.2.2) = t at h2 h3
      generalize blkF 40 σ 0 = b at h1 h3 ⊢
      exact (h1.tr (h3.tr h2)).up (by omega)
/-! steps -/
theorem tickF_n {σ : zS2} (h : RI σ) (n : Nat) : n ≤ (tickF σ n).2 ∧ (tickF σ n).2 ≤ 240 * n := by
  induction n with
  | zero => exact ⟨Nat.le_refl 0, Nat.le_refl 0⟩
  | succ n ih =>
    have hn : RI (nowF (tickF σ n).1) := (tickF_ok h n).now _ _
    have h1 := setF_1 5 (nowF (tickF σ n).1)
    have h2 := setF_240 hn 6
    rw [tickF]
    dsimp only
    dsimp only [Nat.reduceAdd] at h1
    generalize (setF 6 (nowF (tickF σ n).1)).2 = x at h1 h2 ⊢
    generalize (tickF σ n).2 = y at ih ⊢
    omega
theorem S1.tick {j B : Nat} {σ : zS2} (h : S1 j B σ) (n : Nat) : S1 j (B + (tickF σ n).2) (tickF σ n).1 := by
  induction n with
  | zero => exact h
  | succ n ih =>
    rw [tickF]
    dsimp only
    have h1 : S1 j (B + (tickF σ n).2) (nowF (tickF σ n).1) := ih.same (zu_ne _ _ _ _ (by decide) _) (fun z => (zu_ne _ _ _ _ (by decide) _).symm.trans z)
    have h2 := h1.set 6
    generalize setF 6 (nowF (tickF σ n).1) = s at h2 ⊢
    rw [Nat.add_assoc] at h2
    exact h2
theorem Wd.tick (σ : zS2) (n : Nat) : Wd (12 * (tickF σ n).2) σ (tickF σ n).1 := by
  induction n with
  | zero => exact Wd.z rfl
  | succ n ih =>
    rw [tickF]
    dsimp only
    have h1 : Wd 0 (tickF σ n).1 (nowF (tickF σ n).1) := Wd.z (zu_nj _ _ _ _ _ (by decide))
    have h2 := Wd.set 6 (nowF (tickF σ n).1)
    generalize setF 6 (nowF (tickF σ n).1) = s at h2 ⊢
    generalize nowF (tickF σ n).1 = t at h1 h2
    generalize tickF σ n = u at ih h1 ⊢
    exact (ih.tr (h1.tr h2)).up (by omega)
theorem chgF_97 (σ : zS2) (st : Nat) (j : Nat) : chgF σ st 97 j = σ 97 j ∧ (chgF σ st 92 j = 2 → σ 92 j = 2) ∧ chgF σ st 67 33 = σ 67 33 := by
  unfold chgF
  split
  · unfold setCF
    split
    · unfold giveF
      simp only [zu, show ¬ (97 : Nat) = 89 by decide, show ¬ (92 : Nat) = 89 by decide, show ¬ (67 : Nat) = 89 by decide, false_and, if_false]
      rw [dpR_ne _ _ (by decide), dpR_ne _ _ (by decide), dpR_ne _ _ (by decide)]
      simp [dzP, gvP]
    · split
      · rw [becomeF_ne _ _ _ (by decide) (by decide), becomeF_ne _ _ _ (by decide) (by decide), becomeF_ne _ _ _ (by decide) (by decide)]
        simp [zu]
      · simp [zu]
  · split
    · rw [readF_ne _ _ _ (by decide), readF_ne _ _ _ (by decide), readF_ne _ _ _ (by decide)]
      exact ⟨rfl, fun z => z, rfl⟩
    · have z0 : ¬ ((0 : Int32) = 2) := by decide
      unfold setSF
      split
      · refine ⟨by simp [zu], fun z => ?_, by simp [zu]⟩
        simp only [zu, show ¬ (92 : Nat) = 84 by decide, false_and, if_false, true_and] at z
        split at z
        · rename_i e
          split at z
          · exact absurd z z0
          · rw [e]; exact z
        · exact z
      · refine ⟨by simp [zu], fun z => ?_, by simp [zu]⟩
        simp only [zu, true_and] at z
        split at z
        · rename_i e
          split at z
          · exact absurd z z0
          · rw [e]; exact z
        · exact z
theorem S1.do {j B : Nat} {σ : zS2} (h : S1 j B σ) (st : Nat) : S1 j (B + (doF σ st).2) (doF σ st).1 := by
  unfold doF
  split
  · exact h.tick _
  · obtain ⟨h1, h2, -⟩ := chgF_97 σ st j
    exact (h.same h1 h2).set 6
theorem Wd.do (σ : zS2) (st : Nat) : Wd (12 * (doF σ st).2) σ (doF σ st).1 := by
  unfold doF
  split
  · exact Wd.tick _ _
  · have h1 := Wd.z (chgF_97 σ st 0).2.2
    have h2 := Wd.set 6 (chgF σ st)
    generalize setF 6 (chgF σ st) = s at h2 ⊢
    exact (h1.tr h2).up (by omega)
theorem doF_n {σ : zS2} (h : RI σ) {st : Nat} (hc : σ 98 st ≠ 10 → RI (chgF σ st)) (hv : stC σ st ≤ 50 ∨ σ 98 st ≠ 10) : (doF σ st).2 ≤ 12000 ∧ (σ 98 st ≠ 10 → 1 ≤ (doF σ st).2) ∧ (σ 98 st = 10 → stC σ st ≤ (doF σ st).2) := by
  unfold doF
  split
  · rename_i q
    have h1 := tickF_n h (stC σ st)
    have h2 : stC σ st ≤ 50 := hv.resolve_right (fun z => z q)
    exact ⟨Nat.le_trans h1.2 (Nat.le_trans (Nat.mul_le_mul (Nat.le_refl 240) h2) (by decide)), fun z => absurd q z, fun _ => h1.1⟩
  · rename_i q
    exact ⟨Nat.le_trans (setF_240 (hc q) 6) (by decide), fun _ => setF_1 5 _, fun z => absurd z q⟩
theorem S1_begin (S : zS2) {j : Nat} (hj : j < 5) : S1 j 0 (beginF S) := by
  obtain ⟨-, b2, -, -⟩ := beginF_v S
  refine ⟨0, Nat.le_refl 0, ?_, fun z => ?_⟩
  · rw [(b2 j hj).2.2.2.2.2.2.2.2.2.2.2]
    rfl
  · rw [(b2 j hj).2.2.1] at z
    exact absurd z (by decide)
