/-! ===== a call of the law: wrapper and reference agree ===== -/
def vL : Bool → Int32 → Int64
  | true, x => if x = 0 then 0 else 1
  | false, x => x.toInt64
theorem zA4_inj {μ1 μ2 : zMem} {σ1 σ2 : zS2} {π1 π2 : zP2} {g1 g2 : zG2} (h : zA4 μ1 σ1 π1 g1 = zA4 μ2 σ2 π2 g2) : σ1 = σ2 ∧ π1 = π2 ∧ g1 = g2 ∧ zK μ1 = zK μ2 ∧ ∀ σ π g, zA4 μ1 σ π g = zA4 μ2 σ π g := by
  unfold zA4 at *
  injection h with h1 h
  injection h with h2 h
  injection h with h3 h
  injection h with h4 h
  injection h with h5 h6
  exact ⟨h4, h5, h6, h2, fun _ _ _ => by rw [h1, h2, h3]⟩
theorem zug_eq (g : zG2) (a i : Nat) (v : Int64) : zug g a i v a i = v := if_pos ⟨rfl, rfl⟩
section ZPR
variable {l : Launch} {Z : zZ} {mL mX : zM} {hh : zHh} {aL aX : List Value} {bo : Bool} {k kx mc ms n L : Nat} {μ μ0 : zMem} {σ : zS2} {π : zP2} {g : zG2}
end ZPR
theorem cell_nI {a : Int32} (h : cellB a = true) : ∃ c, c < 12 ∧ a = nI c := by
  unfold cellB at h
  simp only [Bool.and_eq_true, decide_eq_true_eq] at h
  obtain ⟨j, hj, rfl⟩ := nI_of (Int32.not_lt.mpr h.1)
  refine ⟨j, ?_, rfl⟩
  rcases Nat.lt_or_ge j 12 with q | q
  · exact q
  · exact absurd h.2 (Int32.not_lt.mpr (nI_le (a := 12) (b := j) q hj))
theorem svc_nI {a : Int32} (h : svcB a = true) : ∃ c, c < 5 ∧ a = nI c := by
  unfold svcB at h
  simp only [Bool.and_eq_true, decide_eq_true_eq] at h
  obtain ⟨j, hj, rfl⟩ := nI_of (Int32.not_lt.mpr h.1)
  refine ⟨j, ?_, rfl⟩
  rcases Nat.lt_or_ge j 5 with q | q
  · exact q
  · exact absurd h.2 (Int32.not_lt.mpr (nI_le (a := 5) (b := j) q hj))
theorem cell_n {c : Nat} (h : c < 12) : cellB (nI c) = true := by
  unfold cellB
  simp only [Bool.and_eq_true, decide_eq_true_eq]
  exact ⟨nI_le (a := 0) (b := c) (Nat.zero_le _) (by omega), nI_lt (a := c) (b := 12) h (by decide)⟩
theorem svc_n {c : Nat} (h : c < 5) : svcB (nI c) = true := by
  unfold svcB
  simp only [Bool.and_eq_true, decide_eq_true_eq]
  exact ⟨nI_le (a := 0) (b := c) (Nat.zero_le _) (by omega), nI_lt (a := c) (b := 5) h (by decide)⟩


