
/-- the tick of every state told anew is one of the document's -/
def RT (n : Nat) (σ : Nat → Nat → Int32) : Prop := ∀ k, k ≤ n → ∃ E, E ≤ 2000 ∧ rpF σ k 67 34 = nI E
theorem RT.mv {n m : Nat} {S S' : Nat → Nat → Int32} (h : RT n S) (hm : m ≤ n) (hV : ∀ k, k < n → stepV S k) (ho : zof S S') (hs : zst m S S') : RT m S' := by
  intro k hk
  obtain ⟨E, h1, h2⟩ := h k (by omega)
  exact ⟨E, h1, ((rpF_q ho hs (fun j hj => hV j (by omega)) k hk).now).trans h2⟩
theorem RT.now {n : Nat} {σ : Nat → Nat → Int32} (h : RT n σ) (hV : RV n σ) : ∃ E, E ≤ 2000 ∧ σ 67 34 = nI E := by
  obtain ⟨E, h1, h2⟩ := h n (Nat.le_refl n)
  exact ⟨E, h1, hV.same.now.trans h2⟩
theorem RT.step {n E : Nat} {σ τ : Nat → Nat → Int32} (ht : RT n σ) (h : RV n σ) (q : zq n σ τ) (hV : stepV τ n) (hE : τ 67 34 = nI E) (hE2 : E ≤ 2000) (h10 : τ 98 n = 10 → E + stC τ n ≤ 2000) : RT (n + 1) (doF τ n).1 := by
  have k1 := doF_k τ n
  have ho : zof τ (doF τ n).1 := doF_f τ hV
  have hs : zst (n + 1) τ (doF τ n).1 := zst_k k1
  have hVt : ∀ k, k < n + 1 → stepV τ k := fun k hk => by
    by_cases e : k = n
    · subst e; exact hV
    · exact stepV_z q.zst (by omega) (h.2.2.1 k (by omega))
  have qt : ∀ k, k ≤ n → zq n (rpF σ k) (rpF τ k) := rpF_q q.zof q.zst h.2.2.1
  have qn : zq (n + 1) (rpF τ n) τ := zq_up (zq_trans (zq_trans (zq_symm (qt n (Nat.le_refl n))) h.same) q) (zst_symm (zst_k (rpF_k τ n)))
  have qd : zq (n + 1) (rpF τ (n + 1)) (doF τ n).1 := (doF_q qn (Nat.lt_succ_self n) (stepV_mv (rpF_k τ n) hV)).1
  intro k hk
  have e := (rpF_q ho hs hVt k hk).now
  by_cases ek : k = n + 1
  · subst ek
    refine ⟨if τ 98 n = 10 then E + stC τ n else E, ?_, (e.trans qd.now.symm).trans (doF_now τ hE n)⟩
    split
    · rename_i z; exact h10 z
    · exact hE2
  · obtain ⟨F, f1, f2⟩ := ht k (by omega)
    exact ⟨F, f1, (e.trans (qt k (by omega)).now).trans f2⟩

