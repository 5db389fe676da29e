/-! ===== steps ===== -/
theorem rg_t {a b v : Int32} (h : a ≤ v ∧ v ≤ b) : (decide (a ≤ v) && decide (v ≤ b)) = true := by simp [h.1, h.2]
theorem rg_f {a b v : Int32} (h : ¬ (a ≤ v ∧ v ≤ b)) : (decide (a ≤ v) && decide (v ≤ b)) = false := by
  rw [Bool.eq_false_iff]
  intro q
  rw [Bool.and_eq_true, decide_eq_true_eq, decide_eq_true_eq] at q
  exact h q
theorem gs_1 (b c : Int32) : goesN (zbi false) b c = 1 := if_pos rfl
theorem gs_2 (c : Int32) : goesN (zbi true) (zbi false) c = 2 := by
  unfold goesN
  rw [if_neg (by decide), if_pos (show zbi false = 0 from rfl)]
theorem gs_3 : goesN (zbi true) (zbi true) (zbi false) = 3 := by decide
theorem vb_k {v : Int32} (h : -1000 ≤ v ∧ v ≤ 1000) : vb v := by
  have h1 := Int32.le_iff_toInt_le.mp h.1
  have h2 := Int32.le_iff_toInt_le.mp h.2
  rw [show (-1000 : Int32).toInt = -1000 from rfl] at h1
  rw [show (1000 : Int32).toInt = 1000 from rfl] at h2
  unfold vb
  omega
theorem okC_r {x : Int32} (h : okC x) : -1 ≤ x ∧ x ≤ 11 := by
  rcases h with rfl | ⟨c, hc, rfl⟩
  · decide
  · exact ⟨Int32.le_trans (by decide : (-1 : Int32) ≤ 0) (nI_le (a := 0) (b := c) (Nat.zero_le _) (by omega)), nI_le (a := c) (b := 11) (by omega) (by decide)⟩
theorem okC_of {x : Int32} (h : -1 ≤ x ∧ x ≤ 11) : okC x := by
  by_cases q : x = -1
  · exact Or.inl q
  · right
    have h0 : ¬ x < 0 := fun z => by
      have h1 := Int32.le_iff_toInt_le.mp h.1
      have h2 := Int32.lt_iff_toInt_lt.mp z
      rw [show (-1 : Int32).toInt = -1 from rfl] at h1
      rw [show (0 : Int32).toInt = 0 from rfl] at h2
      exact q (Int32.toInt_inj.mp (by rw [show (-1 : Int32).toInt = -1 from rfl]; omega))
    obtain ⟨j, hj, rfl⟩ := nI_of h0
    refine ⟨j, ?_, rfl⟩
    rcases Nat.lt_or_ge j 12 with z | z
    · exact z
    · exact absurd h.2 (Int32.not_le.mpr (nI_lt (a := 11) (b := j) z hj))
theorem okC_no {x : Int32} (h : ¬ okC x) : cellB x = false ∧ x ≠ -1 ∧ (decide (-1 ≤ x) && decide (x ≤ 11)) = false := by
  refine ⟨?_, fun q => h (Or.inl q), rg_f (fun q => h (okC_of q))⟩
  cases hb : cellB x with
  | false => rfl
  | true => exact absurd (Or.inr (cell_nI hb)) h
theorem lie_0 {v : Int32} (h : -1 ≤ v ∧ v ≤ 1000) (hn : v ≠ -1) : 0 ≤ v ∧ v ≤ 1000 := by
  refine ⟨?_, h.2⟩
  have h1 := Int32.le_iff_toInt_le.mp h.1
  rw [show (-1 : Int32).toInt = -1 from rfl] at h1
  apply Int32.le_iff_toInt_le.mpr
  rw [show (0 : Int32).toInt = 0 from rfl]
  have : v.toInt ≠ -1 := fun q => hn (Int32.toInt_inj.mp q)
  omega
