
theorem nI_dec {n : Nat} (h : 0 < n) : nI n + Int32.ofInt (-1) = nI (n - 1) := by
  have e : nI n + Int32.ofInt (-1) = nI n - nI 1 := by rw [Int32.sub_eq_add_neg]; rfl
  rw [e]
  exact nI_sub (a := n) (b := 1) h
theorem PM_pop {σ : Nat → Nat → Int32} {ks os : List Nat} {d : Nat} (h : PM σ ks (d :: os)) : PM (zu σ 67 5 (nI os.length)) ks os := by
  obtain ⟨h1, h2, h3, h4, h5, h6, h7⟩ := h
  simp only [List.length_cons] at h6
  exact ⟨by simpa [zu] using h1, by simp [zu], zOp_mv h3 (fun j _ => by simp [zu]), zOp_mv h4.2 (fun j _ => by simp [zu]), h5, by omega, fun x hx => h7 x (List.mem_cons_of_mem _ hx)⟩

