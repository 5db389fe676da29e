
theorem deedN_nI {x : Int32} (h : 0 < deedN x) : ∃ d, 2 ≤ d ∧ d ≤ 7 ∧ deedN x = nI d := by
  unfold deedN at *
  by_cases h1 : x = 43
  · exact ⟨2, by omega, by omega, by rw [if_pos h1]; rfl⟩
  rw [if_neg h1] at *
  by_cases h2 : x = 45
  · exact ⟨3, by omega, by omega, by rw [if_pos h2]; rfl⟩
  rw [if_neg h2] at *
  by_cases h3 : x = 42
  · exact ⟨4, by omega, by omega, by rw [if_pos h3]; rfl⟩
  rw [if_neg h3] at *
  by_cases h4 : x = 60
  · exact ⟨5, by omega, by omega, by rw [if_pos h4]; rfl⟩
  rw [if_neg h4] at *
  by_cases h5 : x = 62
  · exact ⟨6, by omega, by omega, by rw [if_pos h5]; rfl⟩
  rw [if_neg h5] at *
  by_cases h6 : x = 61
  · exact ⟨7, by omega, by omega, by rw [if_pos h6]; rfl⟩
  rw [if_neg h6] at *
  exact absurd h (by decide)
theorem stF_false (σ : Nat → Nat → Int32) (L p : Nat) (ks op : List Nat) (f : Bool × Nat × Nat) (fs : List (Bool × Nat × Nat)) : stF σ L false p ks op (f :: fs) = (if 0 < deedN (σ 68 p) then
        (if 5 ≤ deedN (σ 68 p) ∧ f.1 = true then .inl p
         else .inr (true, p + 1, (clsF (rkN (deedN (σ 68 p)).toNatClampNeg) ks op).1, (deedN (σ 68 p)).toNatClampNeg :: (clsF (rkN (deedN (σ 68 p)).toNatClampNeg) ks op).2, (f.1 || decide (5 ≤ deedN (σ 68 p)), f.2) :: fs))
      else if σ 68 p = 44 ∧ fs ≠ [] ∧ 1 < f.2.2 then .inr (true, p + 1, (clsF 0 ks op).1, (clsF 0 ks op).2, (false, f.2.1, f.2.2 - 1) :: fs)
      else if σ 68 p = 41 ∧ fs ≠ [] ∧ f.2.2 = 1 then
        .inr (false, p + 1, (if f.2.1 ≠ 40 then (30000 + (if f.2.1 = 109 then 8 else if f.2.1 = 110 then 9 else 10)) :: (clsF 0 ks op).1 else (clsF 0 ks op).1), (clsF 0 ks op).2.tail, fs)
      else .inl p) := by
  unfold stF
  simp only [Bool.false_eq_true, false_and, if_false]
theorem zFr_has {σ : Nat → Nat → Int32} {f : Bool × Nat × Nat} {fs : List (Bool × Nat × Nat)} (h : zFr σ (f :: fs)) (b : Bool) : zFr (zu σ 71 fs.length (zbi b)) ((b, f.2) :: fs) := by
  refine ⟨zu_eq _ _ _ _, fun q => ⟨(zu_ne _ _ _ _ (by decide) _).trans (h.2.1 q).1, (zu_ne _ _ _ _ (by decide) _).trans (h.2.1 q).2⟩, zFr_mv h.2.2 (fun b' hb j hj => ?_)⟩
  have hne : ¬ j = fs.length := by omega
  rcases hb with rfl | rfl | rfl <;> simp [zu, hne]
theorem zFr_c {σ σ' : Nat → Nat → Int32} {s : List (Bool × Nat × Nat)} (h : zFr σ s) (e : zpc σ σ') : zFr σ' s :=
  zFr_mv h (fun b hb j _ => e b j (by rcases hb with rfl | rfl | rfl <;> decide) (fun q => absurd q.1 (by rcases hb with rfl | rfl | rfl <;> decide)))
theorem zFr_o {σ : Nat → Nat → Int32} {s : List (Bool × Nat × Nat)} (h : zFr σ s) {a : Nat} (ha : a ≠ 71 ∧ a ≠ 72 ∧ a ≠ 73) (i : Nat) (v : Int32) : zFr (zu σ a i v) s :=
  zFr_mv h (fun b hb j _ => zu_ne _ _ _ _ (by rcases hb with rfl | rfl | rfl; exact ha.1.symm; exact ha.2.1.symm; exact ha.2.2.symm) j)

