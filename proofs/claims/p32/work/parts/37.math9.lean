
theorem dpI_q {n : Nat} {S S' : Nat → Nat → Int32} (h : zq n S S') (c k : Nat) : dpI S' c k = dpI S c k := by
  induction k with
  | zero => rfl
  | succ k ih => simp only [dpI, ih, h.eq 76 (by decide), h.eq 79 (by decide)]
theorem dpO_q {n : Nat} {S S' : Nat → Nat → Int32} (h : zq n S S') (k : Nat) : zq n (dpO S k) (dpO S' k) := by
  induction k with
  | zero => exact h
  | succ k ih => exact zq_u ih _ _ (dpI_q ih k 12) (by decide)
theorem dpR_q {n : Nat} {S S' : Nat → Nat → Int32} (h : zq n S S') (k : Nat) : zq n (dpR S k) (dpR S' k) := by
  induction k with
  | zero => exact h
  | succ k ih => exact dpO_q ih 12
theorem dzP_q {n : Nat} {S S' : Nat → Nat → Int32} (h : zq n S S') (k : Nat) : zq n (dzP S k) (dzP S' k) := by
  refine zq_mk h (fun b hb j => ?_) h.work h.now (fun b hb i => ?_) (fun b hb i => ?_)
  · simp only [dzP, h.eq b hb]
  all_goals
    have : b ≠ 79 := by rintro rfl; revert hb; decide
    simp [dzP, this]
theorem maskP_q {n : Nat} {S S' : Nat → Nat → Int32} (h : zq n S S') {st : Nat} (hs : st < n) (lo hi : Int32) {k : Nat} (hk : k ≤ 30) : maskP S' st lo hi k = maskP S st lo hi k := by
  induction k with
  | zero => rfl
  | succ k ih => simp only [maskP, ih (by omega), h.scode st hs k (by omega)]
theorem gvP_q {n : Nat} {S S' : Nat → Nat → Int32} (h : zq n S S') {c st N : Nat} (hs : st < n) (hN : N ≤ 30) (hL : S 104 st = nI N) : zq n (gvP S c st N) (gvP S' c st N) := by
  have e1 := maskP_q h hs 20000 20999 hN
  have e2 := maskP_q h hs 21000 21999 hN
  have e3 := maskP_q h hs 22000 29999 hN
  have e4 := h.step 104 (by decide) st hs
  refine zq_of (fun b hb j => ?_) h.work h.now h.wait h.held (fun d k hd hk => ?_) (fun b hb k hk => ?_) (fun k hk j hj => ?_)
  · have : b ≠ 74 := by rintro rfl; revert hb; decide
    simp only [gvP, this, false_and, if_false, e1, e2, e3, e4, h.eq b hb]
  · by_cases q : 30 * c ≤ 30 * d + k ∧ 30 * d + k < 30 * c + N
    · simp only [gvP, true_and, q, and_self, if_true]
      exact h.scode st hs _ (by omega)
    · simp only [gvP, true_and, q, if_false, show ¬ (74 : Nat) = 75 by decide, show ¬ (74 : Nat) = 76 by decide, show ¬ (74 : Nat) = 77 by decide, show ¬ (74 : Nat) = 78 by decide, false_and]
      refine h.code d k hd ?_
      by_cases e : d = c
      · subst e
        have : cdn (gvP S d st N) d = N := by simp [cdn, gvP, hL, nI_clamp (show N < 2147483648 by omega)]
        rw [this] at hk
        exact absurd ⟨by omega, by omega⟩ q
      · have : cdn (gvP S c st N) d = cdn S d := by simp [cdn, gvP, e]
        rw [this] at hk
        exact hk
  · have : b ≠ 74 ∧ b ≠ 75 ∧ b ≠ 76 ∧ b ≠ 77 ∧ b ≠ 78 := by
      simp only [List.mem_cons, List.not_mem_nil, or_false] at hb
      rcases hb with rfl | rfl | rfl | rfl | rfl | rfl <;> decide
    simp only [gvP, this, false_and, if_false]
    exact h.step b hb k hk
  · exact h.scode k hk j hj
theorem giveF_q {n : Nat} {S S' : Nat → Nat → Int32} (h : zq n S S') {c st N : Nat} (hs : st < n) (hN : N ≤ 30) (hL : S 104 st = nI N) : zq n (giveF S c st N) (giveF S' c st N) := by
  have h1 := dpR_q (dzP_q (gvP_q h (c := c) hs hN hL) 12) 12
  unfold giveF
  exact zq_u h1 _ _ (by rw [h1.eq 80 (by decide)]) (by decide)
theorem zq_j81 {n : Nat} {S S' : Nat → Nat → Int32} (h : zq n S S') (i : Nat) (v : Int32) : zq n (zu S 81 i v) (zu S' 81 i v) := by
  have q : ∀ (R : Nat → Nat → Int32) b, b ≠ 81 → ∀ j, zu R 81 i v b j = R b j := fun R b hb j => by simp [zu, hb]
  refine zq_of (fun b hb j => ?_) h.work h.now h.wait (fun c h5 hc => ?_) h.code (fun b hb k hk => ?_) h.scode
  · have : b ≠ 81 := by rintro rfl; revert hb; decide
    rw [q _ _ this, q _ _ this]; exact h.eq b hb j
  · simp only [zu]
    split
    · rfl
    · exact h.held c h5 hc
  · have : b ≠ 81 := by rintro rfl; revert hb; decide
    rw [q _ _ this, q _ _ this]; exact h.step b hb k hk
theorem zq_h80 {n : Nat} {S S' : Nat → Nat → Int32} (h : zq n S S') (i : Nat) (v : Int32) (hv : v ≠ 0 → S' 81 i = S 81 i) : zq n (zu S 80 i v) (zu S' 80 i v) := by
  have q : ∀ (R : Nat → Nat → Int32) b, b ≠ 80 → ∀ j, zu R 80 i v b j = R b j := fun R b hb j => by simp [zu, hb]
  refine zq_of (fun b hb j => ?_) h.work h.now h.wait (fun c h5 hc => ?_) h.code (fun b hb k hk => ?_) h.scode
  · simp only [zu]; split
    · rfl
    · exact h.eq b hb j
  · rw [q _ _ (by decide), q _ _ (by decide)]
    by_cases e : c = i
    · subst e
      rw [zu_eq] at hc
      exact hv hc
    · simp only [zu, e, and_false, if_false] at hc
      exact h.held c h5 hc
  · have : b ≠ 80 := by rintro rfl; revert hb; decide
    rw [q _ _ this, q _ _ this]; exact h.step b hb k hk
theorem zu_comm (σ : Nat → Nat → Int32) {a a' : Nat} (h : a ≠ a') (i j : Nat) (v w : Int32) : zu (zu σ a i v) a' j w = zu (zu σ a' j w) a i v := by
  funext b k
  simp only [zu]
  by_cases e : b = a'
  · subst e
    have e2 : ¬ b = a := fun q => h q.symm
    simp [e2]
  · simp [e]
theorem setCF_q {n : Nat} {S S' : Nat → Nat → Int32} (h : zq n S S') {c st N : Nat} (hs : st < n) (hN : S 98 st = 0 → N ≤ 30 ∧ S 104 st = nI N) : zq n (setCF S c st N) (setCF S' c st N) := by
  unfold setCF
  rw [h.step 98 (by decide) st hs, h.step 100 (by decide) st hs]
  split
  · rename_i q
    exact giveF_q h hs (hN q).1 (hN q).2
  split
  · rw [zu_comm S (by decide), zu_comm S' (by decide)]
    exact becomeF_q (zq_u (zq_h80 (zq_j81 h c _) c 1 (fun _ => by rw [zu_eq, zu_eq])) _ _ rfl (by decide)) c rfl
  · exact zq_u (zq_h80 h c 0 (fun q => absurd rfl q)) _ _ rfl (by decide)
theorem readF_q {n : Nat} {S S' : Nat → Nat → Int32} (h : zq n S S') (w : Nat) (v : Int32) : zq n (readF S w v) (readF S' w v) := by
  unfold readF
  rw [h.eq 90 (by decide), h.now]
  split
  · exact zq_u h _ _ rfl (by decide)
  · exact soilF_q (zq_u (zq_u h _ _ rfl (by decide)) _ _ rfl (by decide)) (by decide) w
theorem setSF_q {n : Nat} {S S' : Nat → Nat → Int32} (h : zq n S S') {s st : Nat} (hs : st < n) (h5 : s < 5) : zq n (setSF S s st) (setSF S' s st) := by
  have ek := h.step 98 (by decide) st hs
  have es := h.step 100 (by decide) st hs
  have et := h.step 101 (by decide) st hs
  have h6 : zq n (zu (zu (zu (zu (zu (zu S 82 s (if S 98 st = 4 then S 100 st else S 82 s)) 83 s (if S 98 st = 5 then S 100 st else S 83 s)) 85 s (if S 98 st = 6 then S 100 st else S 85 s)) 86 s (if S 98 st = 6 then S 101 st else S 86 s)) 87 s (if S 98 st = 8 then S 100 st else S 87 s)) 92 s (if S 98 st = 9 then 0 else S 92 s))
     (zu (zu (zu (zu (zu (zu S' 82 s (if S' 98 st = 4 then S' 100 st else S' 82 s)) 83 s (if S' 98 st = 5 then S' 100 st else S' 83 s)) 85 s (if S' 98 st = 6 then S' 100 st else S' 85 s)) 86 s (if S' 98 st = 6 then S' 101 st else S' 86 s)) 87 s (if S' 98 st = 8 then S' 100 st else S' 87 s)) 92 s (if S' 98 st = 9 then 0 else S' 92 s)) := by
    refine zq_st (zq_u (zq_u (zq_u (zq_u (zq_u h _ _ ?_ (by decide)) _ _ ?_ (by decide)) _ _ ?_ (by decide)) _ _ ?_ (by decide)) _ _ ?_ (by decide)) _ ?_ (fun _ hv => ?_)
    · rw [ek, es, h.eq 82 (by decide)]
    · rw [ek, es, h.eq 83 (by decide)]
    · rw [ek, es, h.eq 85 (by decide)]
    · rw [ek, et, h.eq 86 (by decide)]
    · rw [ek, es, h.eq 87 (by decide)]
    · rw [ek, h.eq 92 (by decide)]
    · split at hv
      · exact absurd hv (by decide)
      · simp only [zu, show ¬ (93 : Nat) = 82 by decide, show ¬ (93 : Nat) = 83 by decide, show ¬ (93 : Nat) = 85 by decide, show ¬ (93 : Nat) = 86 by decide, show ¬ (93 : Nat) = 87 by decide, show ¬ (94 : Nat) = 82 by decide, show ¬ (94 : Nat) = 83 by decide, show ¬ (94 : Nat) = 85 by decide, show ¬ (94 : Nat) = 86 by decide, show ¬ (94 : Nat) = 87 by decide, false_and, if_false]
        exact h.wait s h5 hv
  unfold setSF
  dsimp only
  rw [ek]
  rw [ek] at h6
  split
  · exact zq_u h6 _ _ (by rw [es, et, h.eq 84 (by decide)]) (by decide)
  · exact h6
theorem stC_q {n : Nat} {S S' : Nat → Nat → Int32} (h : zq n S S') {st : Nat} (hs : st < n) : stC S' st = stC S st := by unfold stC; rw [h.step 99 (by decide) st hs]
theorem stN_q {n : Nat} {S S' : Nat → Nat → Int32} (h : zq n S S') {st : Nat} (hs : st < n) : stN S' st = stN S st := by unfold stN; rw [h.step 104 (by decide) st hs]
theorem stepV_q {n : Nat} {S S' : Nat → Nat → Int32} (h : zq n S S') {st : Nat} (hs : st < n) (hV : stepV S st) : stepV S' st := by
  unfold stepV at *
  rw [stC_q h hs, stN_q h hs, h.step 98 (by decide) st hs, h.step 99 (by decide) st hs, h.step 104 (by decide) st hs]
  exact hV
theorem chgF_q {n : Nat} {S S' : Nat → Nat → Int32} (h : zq n S S') {st : Nat} (hs : st < n) (hV : stepV S st) (hk : S 98 st ≠ 10) : zq n (chgF S st) (chgF S' st) := by
  unfold chgF
  rw [stC_q h hs, stN_q h hs, h.step 98 (by decide) st hs, h.step 100 (by decide) st hs]
  split
  · refine setCF_q h hs (fun q => ?_)
    rcases hV with hV | hV | ⟨⟨k, k4, k9, hk⟩, -⟩ | hV
    · exact hV.2.2.2 q
    · rw [hV.1] at q; exact absurd q (by decide)
    · rw [hk] at q; exact absurd ((nI_eq (b := 0) (by omega) (by decide)).mp q) (by omega)
    · rw [hV.1] at q; exact absurd q (by decide)
  split
  · exact readF_q h _ _
  · rename_i q1 q2
    refine setSF_q h hs ?_
    rcases hV with hV | hV | hV | hV
    · exact absurd (by rcases hV.1 with q | q | q <;> rw [q] <;> decide) q1
    · exact absurd hV.1 q2
    · exact hV.2.1
    · exact absurd hV.1 hk
theorem nowF_q {n : Nat} {S S' : Nat → Nat → Int32} (h : zq n S S') : zq n (nowF S) (nowF S') := zq_u h _ _ (by rw [h.now]) (by decide)
theorem tickF_q {n : Nat} {S S' : Nat → Nat → Int32} (h : zq n S S') (k : Nat) : zq n (tickF S k).1 (tickF S' k).1 ∧ (tickF S' k).2 = (tickF S k).2 := by
  induction k with
  | zero => exact ⟨h, rfl⟩
  | succ k ih =>
    obtain ⟨h1, e1⟩ := ih
    obtain ⟨h2, e2⟩ := setF_q 6 (nowF_q h1)
    exact ⟨h2, by simp only [tickF, e1, e2]⟩
theorem doF_q {n : Nat} {S S' : Nat → Nat → Int32} (h : zq n S S') {st : Nat} (hs : st < n) (hV : stepV S st) : zq n (doF S st).1 (doF S' st).1 ∧ (doF S' st).2 = (doF S st).2 := by
  unfold doF
  rw [stC_q h hs, h.step 98 (by decide) st hs]
  split
  · exact tickF_q h _
  · rename_i q
    exact setF_q 6 (chgF_q h hs hV q)
theorem clearF_q {n : Nat} {S S' : Nat → Nat → Int32} (h : zq n S S') : zq n (clearF S) (clearF S') := by
  have e80 : ∀ j, S' 80 j = S 80 j := h.eq 80 (by decide)
  refine zq_of (fun b hb j => ?_) ?_ h.now (fun s h5 hs => ?_) h.held h.code (fun b hb k hk => ?_) h.scode
  · by_cases e : b = 88
    · subst e
      by_cases hj : j < 12
      · by_cases h0 : S 80 j = 0
        · simp [clearF, clS, clP, zu, hj, e80, h0]
        · have := h.held j hj h0
          simp [clearF, clS, clP, zu, hj, e80, h0, this]
      · simp [clearF, clS, clP, zu, hj, h.eq 88 (by decide)]
    · have e67 : b ≠ 67 := by rintro rfl; revert hb; decide
      simp only [clearF, clS, clP, zu, e, e67, false_and, if_false, e80, h.eq b hb]
  · simp [clearF, zu]
  · simp [clearF, clS, zu, h5] at hs
  · have : b ≠ 67 ∧ b ≠ 88 ∧ b ≠ 89 ∧ b ≠ 90 ∧ b ≠ 91 ∧ b ≠ 92 ∧ b ≠ 95 ∧ b ≠ 96 ∧ b ≠ 97 := by
      simp only [List.mem_cons, List.not_mem_nil, or_false] at hb
      rcases hb with rfl | rfl | rfl | rfl | rfl | rfl <;> decide
    simp only [clearF, clS, clP, zu, this, false_and, if_false]
    exact h.step b hb k hk

