
/-! what lies below a set: the least set that is closed -/
def clos (σ : Nat → Nat → Int32) (h : Bool) (m : Int32) : Prop := ∀ k j, k < 12 → j < 12 → bt m k = true → (h && decide (σ 80 k ≠ 0)) = false → bt (σ 76 k) j = true → bt m j = true
def cnt (m : Int32) : Nat := (List.range 12).countP (bt m)
theorem belP_up (σ : Nat → Nat → Int32) (h : Bool) (x : Int32) (n : Nat) {i : Nat} (hb : bt x i = true) : bt (belP σ h x n) i = true := by
  induction n with
  | zero => exact hb
  | succ n ih => simp only [belP, b_or, ih, Bool.true_or]
theorem belP_le (σ : Nat → Nat → Int32) (h : Bool) (x : Int32) {n m : Nat} (hn : n ≤ m) {i : Nat} (hb : bt (belP σ h x n) i = true) : bt (belP σ h x m) i = true := by
  induction m with
  | zero =>
    have : n = 0 := by omega
    subst this; exact hb
  | succ m ih =>
    by_cases e : n = m + 1
    · subst e; exact hb
    · simp only [belP, b_or, ih (by omega), Bool.true_or]
theorem belP_reads (σ : Nat → Nat → Int32) (h : Bool) (x : Int32) {n k j : Nat} (hk : k < n) (hb : bt x k = true) (hh : (h && decide (σ 80 k ≠ 0)) = false) (hr : bt (σ 76 k) j = true) : bt (belP σ h x n) j = true := by
  refine belP_le σ h x (n := k + 1) hk ?_
  simp only [belP, b_or]
  rw [belP_up σ h x k hb, hh]
  simp [hr]
/-- nothing but what is in a closed set comes in -/
theorem belP_in (σ : Nat → Nat → Int32) (h : Bool) {x M : Int32} (hM : clos σ h M) (hx : ∀ i, i < 12 → bt x i = true → bt M i = true) {n : Nat} (hn : n ≤ 12) : ∀ i, i < 12 → bt (belP σ h x n) i = true → bt M i = true := by
  induction n with
  | zero => exact hx
  | succ n ih =>
    intro i hi hb
    simp only [belP, b_or, Bool.or_eq_true] at hb
    rcases hb with hb | hb
    · exact ih (by omega) i hi hb
    · split at hb
      · rename_i q
        simp only [Bool.and_eq_true, Bool.not_eq_true'] at q
        exact hM n i (by omega) hi (ih (by omega) n (by omega) q.1) q.2 hb
      · rw [b_0] at hb; cases hb
theorem belR_in (σ : Nat → Nat → Int32) (h : Bool) {x M : Int32} (hM : clos σ h M) (hx : ∀ i, i < 12 → bt x i = true → bt M i = true) (r : Nat) : ∀ i, i < 12 → bt (belR σ h x r) i = true → bt M i = true := by
  induction r with
  | zero => exact hx
  | succ r ih => exact belP_in σ h hM ih (Nat.le_refl 12)
theorem belR_up (σ : Nat → Nat → Int32) (h : Bool) (x : Int32) (r : Nat) {i : Nat} (hb : bt x i = true) : bt (belR σ h x r) i = true := by
  induction r with
  | zero => exact hb
  | succ r ih => exact belP_up σ h _ 12 ih
theorem clos_belP {σ : Nat → Nat → Int32} {h : Bool} {m : Int32} (hc : clos σ h m) : clos σ h (belP σ h m 12) := by
  intro k j hk hj hb hh hr
  exact belP_up σ h m 12 (hc k j hk hj (belP_in σ h hc (fun _ _ q => q) (Nat.le_refl 12) k hk hb) hh hr)
theorem belR_cnt (σ : Nat → Nat → Int32) (h : Bool) (x : Int32) (r : Nat) : clos σ h (belR σ h x r) ∨ r ≤ cnt (belR σ h x r) := by
  induction r with
  | zero => exact Or.inr (Nat.zero_le _)
  | succ r ih =>
    by_cases hc : clos σ h (belR σ h x r)
    · exact Or.inl (clos_belP hc)
    · right
      have ih2 : r ≤ cnt (belR σ h x r) := ih.resolve_left hc
      have : ∃ k j, k < 12 ∧ j < 12 ∧ bt (belR σ h x r) k = true ∧ (h && decide (σ 80 k ≠ 0)) = false ∧ bt (σ 76 k) j = true ∧ bt (belR σ h x r) j = false := by
        apply Classical.byContradiction
        intro hn
        apply hc
        intro k j hk hj hb hh hr
        cases q : bt (belR σ h x r) j with
        | true => rfl
        | false => exact absurd ⟨k, j, hk, hj, hb, hh, hr, q⟩ hn
      obtain ⟨k, j, hk, hj, hb, hh, hr, q⟩ := this
      have : cnt (belR σ h x r) < cnt (belR σ h x (r + 1)) := countP_lt (a := j) (fun i _ hi => belP_up σ h _ 12 hi) (List.mem_range.mpr hj) (belP_reads σ h _ hk hb hh hr) q
      omega
theorem cnt_all {m : Int32} (h : 12 ≤ cnt m) {i : Nat} (hi : i < 12) : bt m i = true := by
  cases q : bt m i with
  | true => rfl
  | false =>
    have : cnt m < (List.range 12).countP (fun _ => true) := countP_lt (a := i) (fun _ _ _ => rfl) (List.mem_range.mpr hi) rfl q
    have e : (List.range 12).countP (fun _ => true) = 12 := by decide
    omega
theorem belF_clos (σ : Nat → Nat → Int32) (h : Bool) (x : Int32) : clos σ h (belF σ h x) := by
  rcases belR_cnt σ h x 12 with q | q
  · exact q
  · exact fun k j hk hj hb hh hr => cnt_all q hj
theorem belF_up (σ : Nat → Nat → Int32) (h : Bool) (x : Int32) {i : Nat} (hb : bt x i = true) : bt (belF σ h x) i = true := belR_up σ h x 12 hb
theorem belF_in (σ : Nat → Nat → Int32) (h : Bool) {x M : Int32} (hM : clos σ h M) (hx : ∀ i, i < 12 → bt x i = true → bt M i = true) : ∀ i, i < 12 → bt (belF σ h x) i = true → bt M i = true := belR_in σ h hM hx 12
/-! ranks -/
def rnk (f : Nat → Int) (k : Nat) : Nat := (List.range 12).countP (fun j => decide (f j < f k))
theorem rnk_lt {f : Nat → Int} {j k : Nat} (hj : j < 12) (h : f j < f k) : rnk f j < rnk f k :=
  countP_lt (a := j) (fun i _ hi => decide_eq_true (Int.lt_trans (of_decide_eq_true hi) h)) (List.mem_range.mpr hj) (decide_eq_true h) (decide_eq_false (Int.lt_irrefl _))
theorem rnk_11 (f : Nat → Int) {k : Nat} (hk : k < 12) : rnk f k ≤ 11 := by
  have : rnk f k < (List.range 12).countP (fun _ => true) := countP_lt (a := k) (fun _ _ _ => rfl) (List.mem_range.mpr hk) rfl (decide_eq_false (Int.lt_irrefl _))
  have e : (List.range 12).countP (fun _ => true) = 12 := by decide
  omega
/-! depths -/
theorem dpI_eq {S S' : Nat → Nat → Int32} {k : Nat} (n : Nat) (h0 : ∀ j, j < n → bt (S' 76 k) j = bt (S 76 k) j) (h : ∀ j, j < n → bt (S 76 k) j = true → S' 79 j = S 79 j) : dpI S' k n = dpI S k n := by
  induction n with
  | zero => rfl
  | succ n ih =>
    have e1 := ih (fun j hj => h0 j (by omega)) (fun j hj => h j (by omega))
    simp only [dpI, e1, h0 n (by omega)]
    by_cases q : bt (S 76 k) n = true
    · rw [h n (by omega) q]
    · simp [q]
theorem dpI_bd {S : Nat → Nat → Int32} {k : Nat} {ρ : Nat → Nat} (n : Nat) (h11 : ρ k ≤ 11) (hr : ∀ j, j < n → bt (S 76 k) j = true → ρ j < ρ k) (h : ∀ j, j < n → ∃ d, S 79 j = nI d ∧ d ≤ ρ j) : ∃ d, dpI S k n = nI d ∧ d ≤ ρ k := by
  induction n with
  | zero => exact ⟨0, rfl, Nat.zero_le _⟩
  | succ n ih =>
    simp only [dpI]
    split
    · rename_i q
      obtain ⟨d, e, hd⟩ := h n (by omega)
      have := hr n (by omega) q.1
      refine ⟨d + 1, ?_, by omega⟩
      rw [e]; exact nI_1 d
    · exact ih (fun j hj => hr j (by omega)) (fun j hj => h j (by omega))
theorem dpI_mono (S : Nat → Nat → Int32) (k : Nat) {n m : Nat} (h : n ≤ m) : dpI S k n ≤ dpI S k m := by
  induction m with
  | zero =>
    have : n = 0 := by omega
    subst this; exact Int32.le_refl _
  | succ m ih =>
    by_cases e : n = m + 1
    · subst e; exact Int32.le_refl _
    · refine Int32.le_trans (ih (by omega)) ?_
      simp only [dpI]
      split
      · rename_i q; exact Int32.le_of_lt q.2
      · exact Int32.le_refl _
theorem dpI_ge (S : Nat → Nat → Int32) (k : Nat) {j n : Nat} (hj : j < n) (hb : bt (S 76 k) j = true) : S 79 j + 1 ≤ dpI S k n := by
  refine Int32.le_trans ?_ (dpI_mono S k (n := j + 1) hj)
  simp only [dpI, hb, true_and]
  split
  · exact Int32.le_refl _
  · rename_i q; exact Int32.not_lt.mp q
theorem dpO_rd (S : Nat → Nat → Int32) (i : Nat) {b : Nat} (h : b ≠ 79) (j : Nat) : dpO S i b j = S b j := dpO_ne S i h j
theorem dpR_rd (S : Nat → Nat → Int32) (i : Nat) {b : Nat} (h : b ≠ 79) (j : Nat) : dpR S i b j = S b j := dpR_ne S i h j
/-- one pass: bounds; what stood stays; what is next stands -/
theorem dpO_ok {S : Nat → Nat → Int32} {ρ : Nat → Nat} (h11 : ∀ k, k < 12 → ρ k ≤ 11) (hr : ∀ k j, k < 12 → j < 12 → bt (S 76 k) j = true → ρ j < ρ k) (hd : ∀ j, j < 12 → ∃ d, S 79 j = nI d ∧ d ≤ ρ j)
    {t : Nat} (hf : ∀ k, k < 12 → ρ k < t → S 79 k = dpI S k 12) (i : Nat) (hi : i ≤ 12) :
    (∀ j, j < 12 → ∃ d, dpO S i 79 j = nI d ∧ d ≤ ρ j) ∧ (∀ k, k < 12 → ρ k < t → dpO S i 79 k = S 79 k) ∧ (∀ k, k < i → ρ k ≤ t → dpO S i 79 k = dpI S k 12) := by
  induction i with
  | zero => exact ⟨hd, fun _ _ _ => rfl, fun k hk => absurd hk (by omega)⟩
  | succ i ih =>
    obtain ⟨a1, a2, a3⟩ := ih (by omega)
    have hrd : ∀ k j, bt (dpO S i 76 k) j = bt (S 76 k) j := fun k j => by rw [dpO_rd S i (by decide)]
    have new : ρ i ≤ t → dpI (dpO S i) i 12 = dpI S i 12 := fun ht => dpI_eq 12 (fun j _ => hrd i j) (fun j hj hb => a2 j hj (by have := hr i j (by omega) hj hb; omega))
    refine ⟨fun j hj => ?_, fun k hk ht => ?_, fun k hk ht => ?_⟩
    · by_cases e : j = i
      · subst e
        simp only [dpO, zu, and_self, if_true]
        exact dpI_bd 12 (h11 j hj) (fun x hx hb => hr j x hj hx (by rw [← hrd]; exact hb)) a1
      · simp only [dpO, zu, e, and_false, if_false]
        exact a1 j hj
    · by_cases e : k = i
      · subst e
        simp only [dpO, zu, and_self, if_true]
        rw [new (by omega), hf k hk ht]
      · simp only [dpO, zu, e, and_false, if_false]
        exact a2 k hk ht
    · by_cases e : k = i
      · subst e
        simp only [dpO, zu, and_self, if_true]
        exact new ht
      · simp only [dpO, zu, e, and_false, if_false]
        exact a3 k (by omega) ht
theorem dpR_ok {S : Nat → Nat → Int32} {ρ : Nat → Nat} (h11 : ∀ k, k < 12 → ρ k ≤ 11) (hr : ∀ k j, k < 12 → j < 12 → bt (S 76 k) j = true → ρ j < ρ k) (hd : ∀ j, j < 12 → ∃ d, S 79 j = nI d ∧ d ≤ ρ j) (t : Nat) :
    (∀ j, j < 12 → ∃ d, dpR S t 79 j = nI d ∧ d ≤ ρ j) ∧ (∀ k, k < 12 → ρ k < t → dpR S t 79 k = dpI (dpR S t) k 12) := by
  induction t with
  | zero => exact ⟨hd, fun k _ h => absurd h (by omega)⟩
  | succ t ih =>
    obtain ⟨a1, a2⟩ := ih
    have hrd : ∀ k j, bt (dpR S t 76 k) j = bt (S 76 k) j := fun k j => by rw [dpR_rd S t (by decide)]
    have hr' : ∀ k j, k < 12 → j < 12 → bt (dpR S t 76 k) j = true → ρ j < ρ k := fun k j hk hj hb => hr k j hk hj (by rw [← hrd]; exact hb)
    obtain ⟨b1, b2, b3⟩ := dpO_ok h11 hr' a1 a2 12 (Nat.le_refl 12)
    refine ⟨b1, fun k hk ht => ?_⟩
    show dpO (dpR S t) 12 79 k = dpI (dpO (dpR S t) 12) k 12
    rw [b3 k hk (by omega)]
    refine (dpI_eq 12 (fun j _ => by rw [dpO_rd _ 12 (by decide)]) (fun j hj hb => b2 j hj ?_)).symm
    have := hr' k j hk hj hb
    omega
/-- depths found anew: each cell's is one more than the deepest that it reads -/
theorem dpR_fix {S : Nat → Nat → Int32} {ρ : Nat → Nat} (h11 : ∀ k, k < 12 → ρ k ≤ 11) (hr : ∀ k j, k < 12 → j < 12 → bt (S 76 k) j = true → ρ j < ρ k) (hd : ∀ j, j < 12 → ∃ d, S 79 j = nI d ∧ d ≤ ρ j) :
    DepthOK (dpR S 12) ∧ (∀ k, k < 12 → ∃ d, dpR S 12 79 k = nI d ∧ d ≤ 11) ∧ ∀ k, k < 12 → dpR S 12 79 k = dpI (dpR S 12) k 12 := by
  obtain ⟨a1, a2⟩ := dpR_ok h11 hr hd 12
  have a3 : ∀ k, k < 12 → dpR S 12 79 k = dpI (dpR S 12) k 12 := fun k hk => a2 k hk (by have := h11 k hk; omega)
  refine ⟨fun k j hk hj hb => ?_, fun k hk => ?_, a3⟩
  · have h1 := dpI_ge (dpR S 12) k (n := 12) hj hb
    rw [← a3 k hk] at h1
    obtain ⟨d, e, hd⟩ := a1 j hj
    have := h11 j hj
    rw [e] at h1 ⊢
    have e2 : nI d + 1 = nI (d + 1) := nI_1 d
    rw [e2] at h1
    exact Int32.lt_of_lt_of_le (nI_lt (by omega) (by omega)) h1
  · obtain ⟨d, e, hd⟩ := a1 k hk
    have := h11 k hk
    exact ⟨d, e, by omega⟩

