
theorem kp_at (σ : Nat → Nat → Int32) (n : Nat) (w a b c : Int32) : kpS σ n w a b c 98 n = w ∧ kpS σ n w a b c 99 n = a ∧ kpS σ n w a b c 100 n = b ∧ kpS σ n w a b c 101 n = c := by
  refine ⟨?_, ?_, ?_, ?_⟩ <;> simp [kpS, zu]
theorem kp_steps (σ : Nat → Nat → Int32) (n : Nat) (w a b c : Int32) : kpS σ n w a b c 67 42 = nI (n + 1) := by simp [kpS, zu]
theorem kp_ne (σ : Nat → Nat → Int32) (n : Nat) (w a b c : Int32) {x : Nat} (hx : x ∉ [67, 98, 99, 100, 101, 102]) (j : Nat) : kpS σ n w a b c x j = σ x j := by
  simp only [List.mem_cons, List.not_mem_nil, or_false, not_or] at hx
  simp [kpS, zu, hx]
theorem kpS_q (σ : Nat → Nat → Int32) (n : Nat) (w a b c : Int32) : zq n σ (kpS σ n w a b c) := by
  refine zq_of (fun x hx j => kp_ne σ n w a b c (fun q => ?_) j) (by simp [kpS, zu]) (by simp [kpS, zu]) (fun s _ _ => ⟨kp_ne σ n w a b c (by decide) s, kp_ne σ n w a b c (by decide) s⟩) (fun d _ _ => kp_ne σ n w a b c (by decide) d) (fun d k _ _ => kp_ne σ n w a b c (by decide) _) (fun x hx k hk => ?_) (fun k _ i _ => kp_ne σ n w a b c (by decide) _)
  · simp only [List.mem_cons, List.not_mem_nil, or_false] at q
    rcases q with rfl | rfl | rfl | rfl | rfl | rfl <;> exact absurd hx (by decide)
  · have e : ¬ k = n := by omega
    have e67 : ¬ x = 67 := by rintro rfl; exact absurd hx (by decide)
    simp [kpS, zu, e, e67]
theorem RV.keep {n : Nat} {σ : Nat → Nat → Int32} (h : RV n σ) (hn : n < 40) {w a b c : Int32} (hk : stepV (kpS σ n w a b c) n ∧ (kpS σ n w a b c 98 n ≠ 10 → RI (chgF (kpS σ n w a b c) n))) : RV (n + 1) (doF (kpS σ n w a b c) n).1 :=
  h.step hn (kpS_q σ n w a b c) (kp_steps σ n w a b c) hk.1 hk.2
theorem RV.m {n : Nat} {σ : Nat → Nat → Int32} (h : RV n σ) (j : Nat) (v : Int32) (hj : j ≠ 33 ∧ j ≠ 34 ∧ j ≠ 42) : RV n (zu σ 67 j v) := by
  have q : zq n σ (zu σ 67 j v) := by
    refine zq_mk (zq_refl n σ) (fun b hb i => zu_ne _ _ _ _ (by rintro rfl; exact absurd hb (by decide)) i) ?_ ?_ (fun _ _ _ => rfl) (fun b hb i => zu_ne _ _ _ _ (by rintro rfl; exact absurd hb (by decide)) i)
    · simp [zu, hj.1.symm]
    · simp [zu, hj.2.1.symm]
  exact h.mv q (by simp [zu, hj.2.2.symm])
theorem kp_hold {n : Nat} {σ : Nat → Nat → Int32} (h : RV n σ) {c : Nat} (hc : c < 12) (v : Int32) : stepV (kpS σ n 1 (nI c) v 0) n ∧ (kpS σ n 1 (nI c) v 0 98 n ≠ 10 → RI (chgF (kpS σ n 1 (nI c) v 0) n)) := by
  have hR := h.ri.kp n 1 (nI c) v 0
  obtain ⟨e1, e2, e3, e4⟩ := kp_at σ n 1 (nI c) v 0
  generalize kpS σ n 1 (nI c) v 0 = τ at *
  have ec : stC τ n = c := by unfold stC; rw [e2]; exact nI_clamp (by omega)
  refine ⟨Or.inl ⟨Or.inr (Or.inl e1), by omega, by rw [ec]; exact e2, fun q => by rw [e1] at q; exact absurd q (by decide)⟩, fun _ => ?_⟩
  unfold chgF setCF
  rw [if_pos (by rw [e1]; decide), if_neg (by rw [e1]; decide), if_pos e1]
  exact hR.hold _ _
theorem kp_release {n : Nat} {σ : Nat → Nat → Int32} (h : RV n σ) {c : Nat} (hc : c < 12) : stepV (kpS σ n 2 (nI c) 0 0) n ∧ (kpS σ n 2 (nI c) 0 0 98 n ≠ 10 → RI (chgF (kpS σ n 2 (nI c) 0 0) n)) := by
  have hR := h.ri.kp n 2 (nI c) 0 0
  obtain ⟨e1, e2, e3, e4⟩ := kp_at σ n 2 (nI c) 0 0
  generalize kpS σ n 2 (nI c) 0 0 = τ at *
  have ec : stC τ n = c := by unfold stC; rw [e2]; exact nI_clamp (by omega)
  refine ⟨Or.inl ⟨Or.inr (Or.inr e1), by omega, by rw [ec]; exact e2, fun q => by rw [e1] at q; exact absurd q (by decide)⟩, fun _ => ?_⟩
  unfold chgF setCF
  rw [if_pos (by rw [e1]; decide), if_neg (by rw [e1]; decide), if_neg (by rw [e1]; decide)]
  exact hR.release _
theorem kp_read {n : Nat} {σ : Nat → Nat → Int32} (h : RV n σ) {c : Nat} (hc : c < 5) (v : Int32) : stepV (kpS σ n 3 (nI c) v 0) n ∧ (kpS σ n 3 (nI c) v 0 98 n ≠ 10 → RI (chgF (kpS σ n 3 (nI c) v 0) n)) := by
  have hR := h.ri.kp n 3 (nI c) v 0
  obtain ⟨e1, e2, e3, e4⟩ := kp_at σ n 3 (nI c) v 0
  generalize kpS σ n 3 (nI c) v 0 = τ at *
  have ec : stC τ n = c := by unfold stC; rw [e2]; exact nI_clamp (by omega)
  refine ⟨Or.inr (Or.inl ⟨e1, by omega, by rw [ec]; exact e2⟩), fun _ => ?_⟩
  unfold chgF
  rw [if_neg (by rw [e1]; decide), if_pos e1]
  exact hR.read _ _
theorem kp_control {n : Nat} {σ : Nat → Nat → Int32} (h : RV n σ) {s : Nat} (hs : s < 5) {x : Int32} (hx : okC x) : stepV (kpS σ n 4 (nI s) x 0) n ∧ (kpS σ n 4 (nI s) x 0 98 n ≠ 10 → RI (chgF (kpS σ n 4 (nI s) x 0) n)) := by
  have hR := h.ri.kp n 4 (nI s) x 0
  obtain ⟨e1, e2, e3, e4⟩ := kp_at σ n 4 (nI s) x 0
  generalize kpS σ n 4 (nI s) x 0 = τ at *
  have hc : stC τ n = s := by unfold stC; rw [e2]; exact nI_clamp (by omega)
  refine ⟨Or.inr (Or.inr (Or.inl ⟨⟨4, by omega, by omega, e1⟩, by omega, by rw [hc]; exact e2⟩)), fun _ => ?_⟩
  unfold chgF
  rw [if_neg (by rw [e1]; decide), if_neg (by rw [e1]; decide)]
  refine hR.setS _ _ (fun q => ?_)
  rw [e3]; exact hx
theorem kp_limit {n : Nat} {σ : Nat → Nat → Int32} (h : RV n σ) {s : Nat} (hs : s < 5) {x : Int32} (hx : okC x) : stepV (kpS σ n 5 (nI s) x 0) n ∧ (kpS σ n 5 (nI s) x 0 98 n ≠ 10 → RI (chgF (kpS σ n 5 (nI s) x 0) n)) := by
  have hR := h.ri.kp n 5 (nI s) x 0
  obtain ⟨e1, e2, e3, e4⟩ := kp_at σ n 5 (nI s) x 0
  generalize kpS σ n 5 (nI s) x 0 = τ at *
  have hc : stC τ n = s := by unfold stC; rw [e2]; exact nI_clamp (by omega)
  refine ⟨Or.inr (Or.inr (Or.inl ⟨⟨5, by omega, by omega, e1⟩, by omega, by rw [hc]; exact e2⟩)), fun _ => ?_⟩
  unfold chgF
  rw [if_neg (by rw [e1]; decide), if_neg (by rw [e1]; decide)]
  refine hR.setS _ _ (fun q => ?_)
  rw [e3]; exact hx
theorem kp_demand {n : Nat} {σ : Nat → Nat → Int32} (h : RV n σ) {s : Nat} (hs : s < 5) (x y : Int32) : stepV (kpS σ n 6 (nI s) x y) n ∧ (kpS σ n 6 (nI s) x y 98 n ≠ 10 → RI (chgF (kpS σ n 6 (nI s) x y) n)) := by
  have hR := h.ri.kp n 6 (nI s) x y
  obtain ⟨e1, e2, e3, e4⟩ := kp_at σ n 6 (nI s) x y
  generalize kpS σ n 6 (nI s) x y = τ at *
  have hc : stC τ n = s := by unfold stC; rw [e2]; exact nI_clamp (by omega)
  refine ⟨Or.inr (Or.inr (Or.inl ⟨⟨6, by omega, by omega, e1⟩, by omega, by rw [hc]; exact e2⟩)), fun _ => ?_⟩
  unfold chgF
  rw [if_neg (by rw [e1]; decide), if_neg (by rw [e1]; decide)]
  refine hR.setS _ _ (fun q => ?_)
  rcases q with q | q <;> (rw [e1] at q; exact absurd q (by decide))
theorem kp_need {n : Nat} {σ : Nat → Nat → Int32} (h : RV n σ) {s : Nat} (hs : s < 5) (x y : Int32) : stepV (kpS σ n 7 (nI s) x y) n ∧ (kpS σ n 7 (nI s) x y 98 n ≠ 10 → RI (chgF (kpS σ n 7 (nI s) x y) n)) := by
  have hR := h.ri.kp n 7 (nI s) x y
  obtain ⟨e1, e2, e3, e4⟩ := kp_at σ n 7 (nI s) x y
  generalize kpS σ n 7 (nI s) x y = τ at *
  have hc : stC τ n = s := by unfold stC; rw [e2]; exact nI_clamp (by omega)
  refine ⟨Or.inr (Or.inr (Or.inl ⟨⟨7, by omega, by omega, e1⟩, by omega, by rw [hc]; exact e2⟩)), fun _ => ?_⟩
  unfold chgF
  rw [if_neg (by rw [e1]; decide), if_neg (by rw [e1]; decide)]
  refine hR.setS _ _ (fun q => ?_)
  rcases q with q | q <;> (rw [e1] at q; exact absurd q (by decide))
theorem kp_lie {n : Nat} {σ : Nat → Nat → Int32} (h : RV n σ) {s : Nat} (hs : s < 5) (x : Int32) : stepV (kpS σ n 8 (nI s) x 0) n ∧ (kpS σ n 8 (nI s) x 0 98 n ≠ 10 → RI (chgF (kpS σ n 8 (nI s) x 0) n)) := by
  have hR := h.ri.kp n 8 (nI s) x 0
  obtain ⟨e1, e2, e3, e4⟩ := kp_at σ n 8 (nI s) x 0
  generalize kpS σ n 8 (nI s) x 0 = τ at *
  have hc : stC τ n = s := by unfold stC; rw [e2]; exact nI_clamp (by omega)
  refine ⟨Or.inr (Or.inr (Or.inl ⟨⟨8, by omega, by omega, e1⟩, by omega, by rw [hc]; exact e2⟩)), fun _ => ?_⟩
  unfold chgF
  rw [if_neg (by rw [e1]; decide), if_neg (by rw [e1]; decide)]
  refine hR.setS _ _ (fun q => ?_)
  rcases q with q | q <;> (rw [e1] at q; exact absurd q (by decide))
theorem kp_mend {n : Nat} {σ : Nat → Nat → Int32} (h : RV n σ) {s : Nat} (hs : s < 5) : stepV (kpS σ n 9 (nI s) 0 0) n ∧ (kpS σ n 9 (nI s) 0 0 98 n ≠ 10 → RI (chgF (kpS σ n 9 (nI s) 0 0) n)) := by
  have hR := h.ri.kp n 9 (nI s) 0 0
  obtain ⟨e1, e2, e3, e4⟩ := kp_at σ n 9 (nI s) 0 0
  generalize kpS σ n 9 (nI s) 0 0 = τ at *
  have hc : stC τ n = s := by unfold stC; rw [e2]; exact nI_clamp (by omega)
  refine ⟨Or.inr (Or.inr (Or.inl ⟨⟨9, by omega, by omega, e1⟩, by omega, by rw [hc]; exact e2⟩)), fun _ => ?_⟩
  unfold chgF
  rw [if_neg (by rw [e1]; decide), if_neg (by rw [e1]; decide)]
  refine hR.setS _ _ (fun q => ?_)
  rcases q with q | q <;> (rw [e1] at q; exact absurd q (by decide))
theorem kp_tick {n : Nat} {σ : Nat → Nat → Int32} (h : RV n σ) {t : Nat} (ht : t ≤ 50) : stepV (kpS σ n 10 (nI t) 0 0) n ∧ (kpS σ n 10 (nI t) 0 0 98 n ≠ 10 → RI (chgF (kpS σ n 10 (nI t) 0 0) n)) := by
  have hR := h.ri.kp n 10 (nI t) 0 0
  obtain ⟨e1, e2, e3, e4⟩ := kp_at σ n 10 (nI t) 0 0
  generalize kpS σ n 10 (nI t) 0 0 = τ at *
  have ec : stC τ n = t := by unfold stC; rw [e2]; exact nI_clamp (by omega)
  exact ⟨Or.inr (Or.inr (Or.inr ⟨e1, by omega, by rw [ec]; exact e2⟩)), fun q => absurd e1 q⟩

