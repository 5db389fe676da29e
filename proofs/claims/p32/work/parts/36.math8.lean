
/-! ===== what of the numbers is looked at: states that differ in nothing else ===== -/
def zqL : List Nat := [75, 76, 77, 78, 79, 80, 82, 83, 84, 85, 86, 87, 88, 89, 90, 91, 92, 95, 96, 97]
def zqJ : List Nat := [92, 80, 75, 93, 94, 81, 74, 98, 99, 100, 101, 102, 103, 104]
def zq (n : Nat) (S S' : Nat → Nat → Int32) : Prop := (∀ b, b ∈ zqL → ∀ j, S' b j = S b j) ∧ (S' 67 33 = S 67 33) ∧ (S' 67 34 = S 67 34) ∧ (∀ s, s < 5 → S 92 s = 1 → S' 93 s = S 93 s ∧ S' 94 s = S 94 s) ∧ (∀ c, c < 12 → S 80 c ≠ 0 → S' 81 c = S 81 c) ∧ (∀ c k, c < 12 → k < cdn S c → S' 74 (30 * c + k) = S 74 (30 * c + k)) ∧ (∀ b, b ∈ [98, 99, 100, 101, 102, 104] → ∀ k, k < n → S' b k = S b k) ∧ (∀ k, k < n → ∀ i, i < 30 → S' 103 (30 * k + i) = S 103 (30 * k + i))
theorem zq.eq {n : Nat} {S S' : Nat → Nat → Int32} (h : zq n S S') : ∀ b, b ∈ zqL → ∀ j, S' b j = S b j := h.1
theorem zq.work {n : Nat} {S S' : Nat → Nat → Int32} (h : zq n S S') : S' 67 33 = S 67 33 := h.2.1
theorem zq.now {n : Nat} {S S' : Nat → Nat → Int32} (h : zq n S S') : S' 67 34 = S 67 34 := h.2.2.1
theorem zq.wait {n : Nat} {S S' : Nat → Nat → Int32} (h : zq n S S') : ∀ s, s < 5 → S 92 s = 1 → S' 93 s = S 93 s ∧ S' 94 s = S 94 s := h.2.2.2.1
theorem zq.held {n : Nat} {S S' : Nat → Nat → Int32} (h : zq n S S') : ∀ c, c < 12 → S 80 c ≠ 0 → S' 81 c = S 81 c := h.2.2.2.2.1
theorem zq.code {n : Nat} {S S' : Nat → Nat → Int32} (h : zq n S S') : ∀ c k, c < 12 → k < cdn S c → S' 74 (30 * c + k) = S 74 (30 * c + k) := h.2.2.2.2.2.1
theorem zq.step {n : Nat} {S S' : Nat → Nat → Int32} (h : zq n S S') : ∀ b, b ∈ [98, 99, 100, 101, 102, 104] → ∀ k, k < n → S' b k = S b k := h.2.2.2.2.2.2.1
theorem zq.scode {n : Nat} {S S' : Nat → Nat → Int32} (h : zq n S S') : ∀ k, k < n → ∀ i, i < 30 → S' 103 (30 * k + i) = S 103 (30 * k + i) := h.2.2.2.2.2.2.2
theorem zq_of {n : Nat} {S S' : Nat → Nat → Int32} (h0 : ∀ b, b ∈ zqL → ∀ j, S' b j = S b j) (h1 : S' 67 33 = S 67 33) (h2 : S' 67 34 = S 67 34) (h3 : ∀ s, s < 5 → S 92 s = 1 → S' 93 s = S 93 s ∧ S' 94 s = S 94 s) (h4 : ∀ c, c < 12 → S 80 c ≠ 0 → S' 81 c = S 81 c) (h5 : ∀ c k, c < 12 → k < cdn S c → S' 74 (30 * c + k) = S 74 (30 * c + k)) (h6 : ∀ b, b ∈ [98, 99, 100, 101, 102, 104] → ∀ k, k < n → S' b k = S b k) (h7 : ∀ k, k < n → ∀ i, i < 30 → S' 103 (30 * k + i) = S 103 (30 * k + i)) : zq n S S' := ⟨h0, h1, h2, h3, h4, h5, h6, h7⟩
theorem zq_refl (n : Nat) (S : Nat → Nat → Int32) : zq n S S := zq_of (fun _ _ _ => rfl) rfl rfl (fun _ _ _ => ⟨rfl, rfl⟩) (fun _ _ _ => rfl) (fun _ _ _ _ => rfl) (fun _ _ _ _ => rfl) (fun _ _ _ _ => rfl)
theorem zq_cn {n : Nat} {S S' : Nat → Nat → Int32} (h : zq n S S') (c : Nat) : cdn S' c = cdn S c := by
  unfold cdn
  rw [h.eq 75 (by decide)]
theorem zq_symm {n : Nat} {S S' : Nat → Nat → Int32} (h : zq n S S') : zq n S' S := zq_of (fun b hb j => (h.eq b hb j).symm) h.work.symm h.now.symm
  (fun s h5 hs => by rw [h.eq 92 (by decide)] at hs; exact ⟨(h.wait s h5 hs).1.symm, (h.wait s h5 hs).2.symm⟩)
  (fun c h5 hc => by rw [h.eq 80 (by decide)] at hc; exact (h.held c h5 hc).symm)
  (fun c k h5 hk => by rw [zq_cn h] at hk; exact (h.code c k h5 hk).symm)
  (fun b hb k hk => (h.step b hb k hk).symm) (fun k hk i hi => (h.scode k hk i hi).symm)
theorem zq_trans {n : Nat} {S S' S'' : Nat → Nat → Int32} (h : zq n S S') (h' : zq n S' S'') : zq n S S'' := zq_of (fun b hb j => (h'.eq b hb j).trans (h.eq b hb j)) (h'.work.trans h.work) (h'.now.trans h.now)
  (fun s h5 hs => by
    have h2 := h'.wait s h5 (by rw [h.eq 92 (by decide)]; exact hs)
    exact ⟨h2.1.trans (h.wait s h5 hs).1, h2.2.trans (h.wait s h5 hs).2⟩)
  (fun c h5 hc => (h'.held c h5 (by rw [h.eq 80 (by decide)]; exact hc)).trans (h.held c h5 hc))
  (fun c k h5 hk => (h'.code c k h5 (by rw [zq_cn h]; exact hk)).trans (h.code c k h5 hk))
  (fun b hb k hk => (h'.step b hb k hk).trans (h.step b hb k hk)) (fun k hk i hi => (h'.scode k hk i hi).trans (h.scode k hk i hi))
theorem zq_less {n m : Nat} {S S' : Nat → Nat → Int32} (h : zq n S S') (hm : m ≤ n) : zq m S S' := zq_of h.eq h.work h.now h.wait h.held h.code (fun b hb k hk => h.step b hb k (Nat.lt_of_lt_of_le hk hm)) (fun k hk => h.scode k (Nat.lt_of_lt_of_le hk hm))
/-- a change of what is always looked at alone -/
theorem zq_mk {n : Nat} {S S' T T' : Nat → Nat → Int32} (h : zq n S S') (e : ∀ b, b ∈ zqL → ∀ j, T' b j = T b j) (w : T' 67 33 = T 67 33) (nw : T' 67 34 = T 67 34)
    (f : ∀ b, b ∈ zqJ → ∀ j, T b j = S b j) (f' : ∀ b, b ∈ zqJ → ∀ j, T' b j = S' b j) : zq n T T' := by
  refine zq_of e w nw (fun s h5 hs => ?_) (fun c h5 hc => ?_) (fun c k h5 hk => ?_) (fun b hb k hk => ?_) (fun k hk i hi => ?_)
  · rw [f _ (by decide)] at hs
    rw [f _ (by decide), f _ (by decide), f' _ (by decide), f' _ (by decide)]
    exact h.wait s h5 hs
  · rw [f _ (by decide)] at hc
    rw [f _ (by decide), f' _ (by decide)]
    exact h.held c h5 hc
  · unfold cdn at hk
    rw [f _ (by decide)] at hk
    rw [f _ (by decide), f' _ (by decide)]
    exact h.code c k h5 hk
  · have hb2 : b ∈ zqJ := by
      simp only [List.mem_cons, List.not_mem_nil, or_false] at hb
      rcases hb with rfl | rfl | rfl | rfl | rfl | rfl <;> decide
    rw [f _ hb2, f' _ hb2]
    exact h.step b hb k hk
  · rw [f _ (by decide), f' _ (by decide)]
    exact h.scode k hk i hi
/-- the same number put at the same place -/
theorem zq_u {n : Nat} {S S' : Nat → Nat → Int32} (h : zq n S S') (a i : Nat) {v v' : Int32} (hv : v' = v) (ha : a ∉ zqJ) : zq n (zu S a i v) (zu S' a i v') := by
  subst hv
  have q : ∀ (R : Nat → Nat → Int32) b, b ∈ zqJ → ∀ j, zu R a i v' b j = R b j := fun R b hb j => by
    have : b ≠ a := fun e => ha (e ▸ hb)
    simp [zu, this]
  refine zq_mk h (fun b hb j => ?_) ?_ ?_ (q S) (q S')
  · simp only [zu]; split
    · rfl
    · exact h.eq b hb j
  · simp only [zu]; split
    · rfl
    · exact h.work
  · simp only [zu]; split
    · rfl
    · exact h.now
theorem zq_st {n : Nat} {S S' : Nat → Nat → Int32} (h : zq n S S') (i : Nat) {v v' : Int32} (hv : v' = v) (ha : i < 5 → v = 1 → S' 93 i = S 93 i ∧ S' 94 i = S 94 i) : zq n (zu S 92 i v) (zu S' 92 i v') := by
  subst hv
  have q : ∀ (R : Nat → Nat → Int32) b, b ≠ 92 → ∀ j, zu R 92 i v' b j = R b j := fun R b hb j => by simp [zu, hb]
  refine zq_of (fun b hb j => ?_) ?_ ?_ (fun s h5 hs => ?_) (fun c h5 hc => ?_) (fun c k h5 hk => ?_) (fun b hb k hk => ?_) (fun k hk j hj => ?_)
  · simp only [zu]; split
    · rfl
    · exact h.eq b hb j
  · exact h.work
  · exact h.now
  · rw [q _ _ (by decide), q _ _ (by decide), q _ _ (by decide), q _ _ (by decide)]
    by_cases e : s = i
    · subst e
      rw [zu_eq] at hs
      exact ha h5 hs
    · simp only [zu, e, and_false, if_false] at hs
      exact h.wait s h5 hs
  · exact h.held c h5 hc
  · exact h.code c k h5 hk
  · have : b ≠ 92 := by rintro rfl; revert hb; decide
    rw [q _ _ this, q _ _ this]
    exact h.step b hb k hk
  · exact h.scode k hk j hj
theorem zq_m {n : Nat} {S S' : Nat → Nat → Int32} (h : zq n S S') (j : Nat) (v v' : Int32) (hj : j ≠ 33 ∧ j ≠ 34) : zq n (zu S 67 j v) (zu S' 67 j v') := by
  have q : ∀ (R : Nat → Nat → Int32) v b i, b ≠ 67 → zu R 67 j v b i = R b i := fun R v b i hb => by simp [zu, hb]
  refine zq_mk h (fun b hb i => ?_) ?_ ?_ (fun b hb i => ?_) (fun b hb i => ?_)
  · have : b ≠ 67 := by rintro rfl; revert hb; decide
    rw [q _ _ _ _ this, q _ _ _ _ this]; exact h.eq b hb i
  · simp only [zu, hj.1.symm, and_false, if_false]; exact h.work
  · simp only [zu, hj.2.symm, and_false, if_false]; exact h.now
  all_goals
    have : b ≠ 67 := by rintro rfl; revert hb; decide
    exact q _ _ _ _ this
theorem soilF_q {n : Nat} {S S' : Nat → Nat → Int32} (h : zq n S S') {ra : Nat} (hr : ra ∈ zqL) (w : Nat) : zq n (soilF S ra w) (soilF S' ra w) := by
  have q : ∀ (R : Nat → Nat → Int32) b, b ≠ 89 → ∀ j, soilF R ra w b j = R b j := fun R b hb j => soilF_ne R ra w hb j
  refine zq_mk h (fun b hb j => ?_) ?_ ?_ (fun b hb i => ?_) (fun b hb i => ?_)
  · by_cases e : b = 89
    · subst e
      unfold soilF soilP
      rw [h.eq _ (by decide), h.eq _ (by decide), h.eq _ hr]
    · rw [q _ _ e, q _ _ e]; exact h.eq b hb j
  · rw [q _ _ (by decide), q _ _ (by decide)]; exact h.work
  · rw [q _ _ (by decide), q _ _ (by decide)]; exact h.now
  all_goals
    have : b ≠ 89 := by rintro rfl; revert hb; decide
    exact q _ _ this i
theorem becomeF_q {n : Nat} {S S' : Nat → Nat → Int32} (h : zq n S S') (c : Nat) {v v' : Int32} (hv : v' = v) : zq n (becomeF S c v) (becomeF S' c v') := by
  subst hv
  unfold becomeF
  rw [h.eq _ (by decide)]
  split
  · exact h
  · exact soilF_q (zq_u h _ _ rfl (by decide)) (by decide) c
theorem tellF_q {n : Nat} {S S' : Nat → Nat → Int32} (h : zq n S S') (c : Nat) {v v' : Int32} (hv : v' = v) : zq n (tellF S c v) (tellF S' c v') := by
  subst hv
  unfold tellF
  rw [h.eq _ (by decide)]
  split
  · exact h
  · exact soilF_q (zq_u h _ _ rfl (by decide)) (by decide) c
theorem ndP_q {n : Nat} {S S' : Nat → Nat → Int32} (h : zq n S S') (k : Nat) : ndP S' k = ndP S k := by
  induction k with
  | zero => rfl
  | succ k ih => simp only [ndP, ih, h.eq 89 (by decide), h.eq 79 (by decide)]
theorem evP_q {n : Nat} {S S' : Nat → Nat → Int32} (h : zq n S S') {w w' : Nat → Nat} {k : Nat} (hw : ∀ i, i < k → w' i = w i) : evP S' w' k = evP S w k := by
  induction k with
  | zero => rfl
  | succ k ih =>
    simp only [evP, evS, opnd, h.eq 88 (by decide), h.eq 90 (by decide), h.eq 96 (by decide)]
    rw [ih (fun i hi => hw i (by omega)), hw k (by omega)]
theorem cdw_q {n : Nat} {S S' : Nat → Nat → Int32} (h : zq n S S') {c k : Nat} (h5 : c < 12) (hk : k < cdn S c) : cdw S' c k = cdw S c k := by
  unfold cdw
  rw [h.code c k h5 hk]
theorem worthN_q {n : Nat} {S S' : Nat → Nat → Int32} (h : zq n S S') {c : Nat} (h5 : c < 12) : worthN S' c = worthN S c := by
  unfold worthN
  rw [zq_cn h, evP_q h (fun i hi => cdw_q h h5 hi)]
theorem wkS_q {n : Nat} {S S' : Nat → Nat → Int32} (h : zq n S S') {c : Nat} (h5 : c < 12) : zq n (wkS S c) (wkS S' c) := by
  have h1 : zq n (zu (zu S 89 c 0) 67 33 (S 67 33 + 1)) (zu (zu S' 89 c 0) 67 33 (S' 67 33 + 1)) := zq_u (zq_u h _ _ rfl (by decide)) _ _ (by rw [h.work]) (by decide)
  unfold wkS
  exact becomeF_q (zq_m h1 _ _ _ (by decide)) c (worthN_q h1 h5)
theorem wkI_q {n : Nat} (k : Nat) : ∀ {S S' : Nat → Nat → Int32}, zq n S S' → zq n (wkI S k) (wkI S' k) := by
  induction k with
  | zero => exact fun h => h
  | succ k ih =>
    intro S S' h
    unfold wkI
    rw [ndP_q h]
    split
    · exact h
    · rename_i c hc
      exact ih (wkS_q h (ndP_lt _ _ _ hc))
theorem wantP_q {n : Nat} {S S' : Nat → Nat → Int32} (h : zq n S S') (s k : Nat) : wantP S' s k = wantP S s k := by
  simp only [wantP, h.eq 82 (by decide), h.eq 88 (by decide), h.eq 84 (by decide), h.eq 92 (by decide)]
theorem belP_q {n : Nat} {S S' : Nat → Nat → Int32} (h : zq n S S') (b : Bool) (x : Int32) (k : Nat) : belP S' b x k = belP S b x k := by
  induction k with
  | zero => rfl
  | succ k ih => simp only [belP, ih, h.eq 80 (by decide), h.eq 76 (by decide)]
theorem belR_q {n : Nat} {S S' : Nat → Nat → Int32} (h : zq n S S') (b : Bool) (x : Int32) (k : Nat) : belR S' b x k = belR S b x k := by
  induction k with
  | zero => rfl
  | succ k ih => simp only [belR, ih, belP_q h]
theorem belF_q {n : Nat} {S S' : Nat → Nat → Int32} (h : zq n S S') (b : Bool) (x : Int32) : belF S' b x = belF S b x := belR_q h b x 12
theorem oldB_q {n : Nat} {S S' : Nat → Nat → Int32} (h : zq n S S') (w : Nat) : oldB S' w = oldB S w := by
  simp only [oldB, h.eq 91 (by decide), h.now]
theorem stI_q {n : Nat} {S S' : Nat → Nat → Int32} (h : zq n S S') (x : Int32) (c k : Nat) : stI S' x c k = stI S x c k := by
  induction k with
  | zero => rfl
  | succ k ih => simp only [stI, ih, h.eq 80 (by decide), h.eq 77 (by decide), oldB_q h]
theorem stO_q {n : Nat} {S S' : Nat → Nat → Int32} (h : zq n S S') (x : Int32) (k : Nat) : stO S' x k = stO S x k := by
  induction k with
  | zero => rfl
  | succ k ih => simp only [stO, ih, stI_q h]
theorem staleB_q {n : Nat} {S S' : Nat → Nat → Int32} (h : zq n S S') (c : Nat) : staleB S' c = staleB S c := by
  simp only [staleB, belF_q h, stO_q h]
theorem loadN_q {n : Nat} {S S' : Nat → Nat → Int32} (h : zq n S S') (s : Nat) : loadN S' s = loadN S s := by
  simp only [loadN, h.eq 83 (by decide), h.eq 85 (by decide), h.eq 88 (by decide), h.eq 92 (by decide)]
theorem runF_q {n : Nat} {S S' : Nat → Nat → Int32} (h : zq n S S') (s : Nat) : zq n (runF S s) (runF S' s) :=
  zq_u (zq_st h s rfl (fun _ q => absurd q (by decide))) _ _ (by rw [h.eq _ (by decide)]) (by decide)
theorem changeF_q {n : Nat} {S S' : Nat → Nat → Int32} (h : zq n S S') {s : Nat} (h5 : s < 5) : zq n (changeF S s) (changeF S' s) := by
  have hs : zq n (zu (zu (zu S 93 s (S 67 34)) 94 s (S 86 s)) 92 s 1) (zu (zu (zu S' 93 s (S' 67 34)) 94 s (S' 86 s)) 92 s 1) := by
    refine zq_st (v := 1) (v' := 1) ?_ s rfl (fun _ _ => ?_)
    · refine zq_of (fun b hb j => ?_) h.work h.now (fun k k5 hk => ?_) h.held h.code (fun b hb k hk => ?_) h.scode
      · have h1 : b ≠ 93 := by rintro rfl; revert hb; decide
        have h2 : b ≠ 94 := by rintro rfl; revert hb; decide
        simp only [zu, h1, h2, false_and, if_false]
        exact h.eq b hb j
      · have hk2 : S 92 k = 1 := hk
        obtain ⟨e1, e2⟩ := h.wait k k5 hk2
        have e3 : S' 86 s = S 86 s := h.eq _ (by decide) _
        simp [zu, h.now, e1, e2, e3]
      · have h1 : b ≠ 93 := by rintro rfl; revert hb; decide
        have h2 : b ≠ 94 := by rintro rfl; revert hb; decide
        simp only [zu, h1, h2, false_and, if_false]
        exact h.step b hb k hk
    · simp [zu, h.now, h.eq 86 (by decide)]
  unfold changeF
  rw [wantP_q h, h.eq 92 (by decide), h.eq 82 (by decide), staleB_q h]
  split
  · exact zq_st h s rfl (fun _ q => absurd q (by decide))
  split
  · have e : S' 86 s = S 86 s := h.eq _ (by decide) _
    rw [e] at hs ⊢
    split
    · exact runF_q hs s
    · exact hs
  · by_cases h1 : S 92 s = 1
    · obtain ⟨e1, e2⟩ := h.wait s h5 h1
      rw [e1, e2, h.now]
      split
      · exact runF_q h s
      · exact h
    · simp only [h1, false_and, if_false]
      exact h
theorem rdS_q {n : Nat} {S S' : Nat → Nat → Int32} (h : zq n S S') {k : Nat} (h5 : k < 5) : zq n (rdS S k) (rdS S' k) := by
  have h1 : zq n (rdC S k) (rdC S' k) := by
    unfold rdC
    rw [h.eq 92 (by decide)]
    split
    · exact h
    · exact changeF_q h h5
  have h2 : zq n (rdL (rdC S k) k) (rdL (rdC S' k) k) := zq_u h1 _ _ (loadN_q h1 k) (by decide)
  unfold rdS
  refine tellF_q h2 k ?_
  unfold rdT
  rw [h2.eq 87 (by decide), h2.eq 92 (by decide), h2.eq 95 (by decide)]
theorem rdP_q {n : Nat} {S S' : Nat → Nat → Int32} (h : zq n S S') {k : Nat} (h5 : k ≤ 5) : zq n (rdP S k) (rdP S' k) := by
  induction k with
  | zero => exact h
  | succ k ih => exact rdS_q (ih (by omega)) (by omega)
theorem chB_q {n : Nat} {S S' T T' : Nat → Nat → Int32} (h : zq n S S') (h' : zq n T T') (k : Nat) : chB S' T' k = chB S T k := by
  simp only [chB, h.eq 92 (by decide), h.eq 95 (by decide), h.eq 96 (by decide), h'.eq 92 (by decide), h'.eq 95 (by decide), h'.eq 96 (by decide)]
theorem rdM_q {n : Nat} {S S' : Nat → Nat → Int32} (h : zq n S S') {k : Nat} (h5 : k ≤ 5) : rdM S' k = rdM S k := by
  induction k with
  | zero => rfl
  | succ k ih => simp only [rdM, ih (by omega), chB_q (rdP_q h (k := k) (by omega)) (rdP_q h (k := k + 1) h5)]
theorem roundF_q {n : Nat} {S S' : Nat → Nat → Int32} (h : zq n S S') : zq n (roundF S) (roundF S') := rdP_q (wkI_q 12 h) (Nat.le_refl 5)
theorem maskF_q {n : Nat} {S S' : Nat → Nat → Int32} (h : zq n S S') : maskF S' = maskF S := rdM_q (wkI_q 12 h) (Nat.le_refl 5)
theorem cutF_q {n : Nat} {S S' : Nat → Nat → Int32} (h : zq n S S') (k : Nat) : zq n (cutF S k) (cutF S' k) :=
  tellF_q (zq_u (zq_st h k rfl (fun _ q => absurd q (by decide))) _ _ rfl (by decide)) k rfl
theorem blkF_q {n : Nat} (r : Nat) : ∀ {S S' : Nat → Nat → Int32}, zq n S S' → ∀ late, zq n (blkF r S late).1 (blkF r S' late).1 ∧ (blkF r S' late).2 = (blkF r S late).2 := by
  induction r with
  | zero => exact fun h late => ⟨h, rfl⟩
  | succ r ih =>
    intro S S' h late
    have hm := maskF_q h
    by_cases e : maskF S = 0
    · rw [blkF_0 late e, blkF_0 late (hm.trans e), hm]
      dsimp only
      exact ⟨roundF_q h, rfl⟩
    · rw [blkF_1 late e, blkF_1 late (by rw [hm]; exact e), hm]
      dsimp only
      generalize hl : late ||| (if r < 12 then maskF S else 0) = l2
      have hr := roundF_q h
      generalize roundF S = R at hr ⊢
      generalize roundF S' = R' at hr ⊢
      obtain ⟨g1, g2⟩ := ih hr l2
      exact ⟨g1, by rw [g2]⟩
theorem setF_q {n : Nat} (f : Nat) : ∀ {S S' : Nat → Nat → Int32}, zq n S S' → zq n (setF f S).1 (setF f S').1 ∧ (setF f S').2 = (setF f S).2 := by
  induction f with
  | zero => exact fun h => ⟨h, rfl⟩
  | succ f ih =>
    intro S S' h
    obtain ⟨g1, g2⟩ := blkF_q 40 h 0
    unfold setF
    rw [g2]
    split
    · exact ⟨g1, rfl⟩
    · obtain ⟨g3, g4⟩ := ih (cutF_q g1 (lowN (blkF 40 S 0).2.2.2))
      dsimp only
      exact ⟨g3, by rw [g4]⟩

