/-! ===== what keeps being so beside RI ===== -/
def vb (x : Int32) : Prop := -1000000 ≤ x.toInt ∧ x.toInt ≤ 1000000
theorem XI.mv {S S' : zS2} (h : XI S) (e : ∀ b, b ∈ [80, 81, 85, 87, 88, 89, 90, 91, 92, 96] → ∀ j, S' b j = S b j) : XI S' := by
  obtain ⟨h1, h2, h3, h4, h5⟩ := h
  refine ⟨fun c hc => ?_, fun c hc => ?_, fun c hc => ?_, fun r hr => ?_, fun s hs => ?_⟩
  · rw [e 88 (by decide)]; exact h1 c hc
  · rw [e 80 (by decide)]; exact h2 c hc
  · rw [e 80 (by decide), e 81 (by decide), e 88 (by decide), e 89 (by decide)]; exact h3 c hc
  · rw [e 90 (by decide), e 91 (by decide)]; exact h4 r hr
  · rw [e 96 (by decide), e 85 (by decide), e 87 (by decide), e 92 (by decide)]; exact h5 s hs
theorem XI.soil {S : zS2} (h : XI S) (rk w : Nat) : XI (soilF S rk w) := by
  obtain ⟨h1, h2, h3, h4, h5⟩ := h
  refine ⟨fun c hc => ?_, fun c hc => ?_, fun c hc hh => ?_, fun r hr => ?_, fun s hs => ?_⟩
  · rw [soilF_ne _ _ _ (by decide)]; exact h1 c hc
  · rw [soilF_ne _ _ _ (by decide)]; exact h2 c hc
  · rw [soilF_ne _ _ _ (by decide)] at hh
    rw [soilF_ne _ _ _ (by decide), soilF_ne _ _ _ (by decide), soilF_at _ _ _ hc]
    obtain ⟨a, b⟩ := h3 c hc hh
    refine ⟨a, ?_⟩
    rw [b]; simp [hh, zbi]
  · rw [soilF_ne _ _ _ (by decide), soilF_ne _ _ _ (by decide)]; exact h4 r hr
  · rw [soilF_ne _ _ _ (by decide), soilF_ne _ _ _ (by decide), soilF_ne _ _ _ (by decide), soilF_ne _ _ _ (by decide)]; exact h5 s hs
theorem XI.val {S : zS2} (h : XI S) {c : Nat} {v : Int32} (hv : vb v) (hh : S 80 c ≠ 0 → S 81 c = v) : XI (zu S 88 c v) := by
  obtain ⟨h1, h2, h3, h4, h5⟩ := h
  refine ⟨fun d hd => ?_, fun d hd => ?_, fun d hd q => ?_, fun r hr => ?_, fun s hs => ?_⟩
  · by_cases e : d = c
    · subst e; rw [zu_eq]; exact hv
    · rw [zu_n _ _ _ _ (by omega)]; exact h1 d hd
  · rw [zu_ne _ _ _ _ (by decide)]; exact h2 d hd
  · rw [zu_ne _ _ _ _ (by decide)] at q
    rw [zu_ne _ _ _ _ (by decide : 81 ≠ 88), zu_ne _ _ _ _ (by decide : 89 ≠ 88)]
    by_cases e : d = c
    · subst e; rw [zu_eq]; exact ⟨hh q, (h3 d hd q).2⟩
    · rw [zu_n _ _ _ _ (by omega)]; exact h3 d hd q
  · rw [zu_ne _ _ _ _ (by decide), zu_ne _ _ _ _ (by decide)]; exact h4 r hr
  · rw [zu_ne _ _ _ _ (by decide), zu_ne _ _ _ _ (by decide), zu_ne _ _ _ _ (by decide), zu_ne _ _ _ _ (by decide)]; exact h5 s hs
theorem XI.become {S : zS2} (h : XI S) {c : Nat} {v : Int32} (hv : vb v) (hh : S 80 c ≠ 0 → S 81 c = v) : XI (becomeF S c v) := by
  unfold becomeF
  split
  · exact h
  · exact (h.val hv hh).soil 76 c
theorem XI.told {S : zS2} (h : XI S) {s : Nat} {v : Int32} (hv : vb v) : XI (tellF S s v) := by
  unfold tellF
  split
  · exact h
  · refine XI.soil ?_ _ _
    obtain ⟨h1, h2, h3, h4, h5⟩ := h
    refine ⟨fun d hd => ?_, fun d hd => ?_, fun d hd q => ?_, fun r hr => ?_, fun k hk => ?_⟩
    · rw [zu_ne _ _ _ _ (by decide)]; exact h1 d hd
    · rw [zu_ne _ _ _ _ (by decide)]; exact h2 d hd
    · rw [zu_ne _ _ _ _ (by decide)] at q
      rw [zu_ne _ _ _ _ (by decide), zu_ne _ _ _ _ (by decide), zu_ne _ _ _ _ (by decide)]; exact h3 d hd q
    · rw [zu_ne _ _ _ _ (by decide), zu_ne _ _ _ _ (by decide)]; exact h4 r hr
    · rw [zu_ne _ _ _ _ (by decide : 85 ≠ 96), zu_ne _ _ _ _ (by decide : 87 ≠ 96), zu_ne _ _ _ _ (by decide : 92 ≠ 96)]
      refine ⟨?_, (h5 k hk).2⟩
      by_cases e : k = s
      · subst e; rw [zu_eq]; exact hv
      · rw [zu_n _ _ _ _ (by omega)]; exact (h5 k hk).1
theorem XI.state {S : zS2} (h : XI S) {s : Nat} {v : Int32} (hv : v = 0 ∨ v = 1 ∨ v = 2 ∨ v = 3) : XI (zu S 92 s v) := by
  obtain ⟨h1, h2, h3, h4, h5⟩ := h
  refine ⟨fun d hd => ?_, fun d hd => ?_, fun d hd q => ?_, fun r hr => ?_, fun k hk => ?_⟩
  · rw [zu_ne _ _ _ _ (by decide)]; exact h1 d hd
  · rw [zu_ne _ _ _ _ (by decide)]; exact h2 d hd
  · rw [zu_ne _ _ _ _ (by decide)] at q
    rw [zu_ne _ _ _ _ (by decide), zu_ne _ _ _ _ (by decide), zu_ne _ _ _ _ (by decide)]; exact h3 d hd q
  · rw [zu_ne _ _ _ _ (by decide), zu_ne _ _ _ _ (by decide)]; exact h4 r hr
  · rw [zu_ne _ _ _ _ (by decide : 96 ≠ 92), zu_ne _ _ _ _ (by decide : 85 ≠ 92), zu_ne _ _ _ _ (by decide : 87 ≠ 92)]
    refine ⟨(h5 k hk).1, (h5 k hk).2.1, (h5 k hk).2.2.1, ?_⟩
    by_cases e : k = s
    · subst e; rw [zu_eq]; exact hv
    · rw [zu_n _ _ _ _ (by omega)]; exact (h5 k hk).2.2.2
theorem XI.oth {S : zS2} (h : XI S) {b j : Nat} {v : Int32} (hb : b ∉ [80, 81, 85, 87, 88, 89, 90, 91, 92, 96]) : XI (zu S b j v) := h.mv fun d hd k => zu_ne _ _ _ _ (fun e => hb (by rw [← e]; exact hd)) k
theorem XI.clean {S : zS2} (h : XI S) {c : Nat} : XI (zu S 89 c 0) := by
  obtain ⟨h1, h2, h3, h4, h5⟩ := h
  refine ⟨fun d hd => ?_, fun d hd => ?_, fun d hd q => ?_, fun r hr => ?_, fun k hk => ?_⟩
  · rw [zu_ne _ _ _ _ (by decide)]; exact h1 d hd
  · rw [zu_ne _ _ _ _ (by decide)]; exact h2 d hd
  · rw [zu_ne _ _ _ _ (by decide)] at q
    rw [zu_ne _ _ _ _ (by decide), zu_ne _ _ _ _ (by decide)]
    refine ⟨(h3 d hd q).1, ?_⟩
    by_cases e : d = c
    · subst e; rw [zu_eq]
    · rw [zu_n _ _ _ _ (by omega)]; exact (h3 d hd q).2
  · rw [zu_ne _ _ _ _ (by decide), zu_ne _ _ _ _ (by decide)]; exact h4 r hr
  · rw [zu_ne _ _ _ _ (by decide), zu_ne _ _ _ _ (by decide), zu_ne _ _ _ _ (by decide), zu_ne _ _ _ _ (by decide)]; exact h5 k hk
/-- numbers of formulas stay small -/
def ib (x : Int) : Prop := -1000000 ≤ x ∧ x ≤ 1000000
theorem clampI_ib (x : Int) : ib (clampI x) := by
  unfold clampI ib
  split
  · omega
  · split <;> omega
theorem evD_ib {d : Nat} {s : List Int} (h : ∀ x ∈ s, ib x) : ∀ x ∈ evD d s, ib x := by
  unfold evD
  split
  · exact h
  · rename_i x s1
    have hx := h x (by simp)
    have h1 : ∀ y ∈ s1, ib y := fun y hy => h y (List.mem_cons_of_mem _ hy)
    split
    · intro y hy
      rcases List.mem_cons.mp hy with e | e
      · subst e; unfold ib at *; omega
      · exact h1 y e
    · split
      · exact fun y hy => h y (by simpa using hy)
      · rename_i y s2
        have hy := h1 y (by simp)
        have h2 : ∀ z ∈ s2, ib z := fun z hz => h1 z (List.mem_cons_of_mem _ hz)
        split
        · split
          · exact fun z hz => h z (by simpa using hz)
          · rename_i z s3
            have hz := h2 z (by simp)
            intro u hu
            rcases List.mem_cons.mp hu with e | e
            · subst e
              split
              · exact hy
              · exact hx
            · exact h2 u (List.mem_cons_of_mem _ e)
        · intro u hu
          rcases List.mem_cons.mp hu with e | e
          · subst e; exact clampI_ib _
          · exact h2 u e
theorem opnd_ib {S : zS2} (hX : XI S) {x : Nat} (ht : tokR x) (h3 : x < 30000) : ib (opnd S x) := by
  unfold opnd
  unfold tokR at ht
  split
  · unfold ib; omega
  · split
    · exact hX.1 (x - 20000) (by omega)
    · split
      · exact (hX.2.2.2.1 (x - 21000) (by omega)).1
      · exact (hX.2.2.2.2 (x - 22000) (by omega)).1
theorem evP_ib {S : zS2} (hX : XI S) {w : Nat → Nat} {n : Nat} (h : ∀ k, k < n → tokR (w k)) : ∀ x ∈ evP S w n, ib x := by
  induction n with
  | zero => intro x hx; cases hx
  | succ n ih =>
    have ih2 := ih (fun k hk => h k (by omega))
    rw [evP]
    unfold evS
    split
    · rename_i h3
      intro x hx
      rcases List.mem_cons.mp hx with e | e
      · rw [e]; exact opnd_ib hX (h n (by omega)) h3
      · exact ih2 x e
    · exact evD_ib ih2
theorem worthN_vb {S : zS2} (hX : XI S) {c : Nat} (hW : WFc S c) : vb (worthN S c) := by
  have hm : ib ((evP S (cdw S c) (cdn S c)).headD 0) := by
    cases he : evP S (cdw S c) (cdn S c) with
    | nil => show ib 0; unfold ib; omega
    | cons x s =>
      have := evP_ib hX (w := cdw S c) (n := cdn S c) (fun k hk => (hW.1.2.2 k hk).1) x (by rw [he]; simp)
      exact this
  unfold worthN vb
  unfold ib at hm
  rw [Int32.toInt_ofInt_of_le (by omega) (by omega)]
  exact hm
theorem XI.wk {S : zS2} (h : XI S) {c : Nat} (hc : c < 12) (hd : S 89 c ≠ 0) (hW : WFc S c) : XI (wkS S c) := by
  have hh : S 80 c = 0 := by
    rcases h.2.1 c hc with e | e
    · exact e
    · exact absurd (h.2.2.1 c hc (by rw [e]; decide)).2 hd
  have h1 : XI (zu (zu S 89 c 0) 67 33 (S 67 33 + 1)) := h.clean.oth (by decide)
  unfold wkS
  refine XI.become (h1.oth (by decide)) (worthN_vb h1 (WFc_mv hW (fun j => ?_) (fun j => ?_))) (fun q => ?_)
  · rw [zu_ne _ _ _ _ (by decide), zu_ne _ _ _ _ (by decide)]
  · rw [zu_ne _ _ _ _ (by decide), zu_ne _ _ _ _ (by decide)]
  · rw [zu_ne _ _ _ _ (by decide), zu_ne _ _ _ _ (by decide), zu_ne _ _ _ _ (by decide)] at q
    exact absurd hh q
theorem XI.wki : ∀ (n : Nat) {S : zS2}, XI S → (∀ c, c < 12 → WFc S c) → XI (wkI S n) := by
  intro n
  induction n with
  | zero => intro S h _; exact h
  | succ n ih =>
    intro S h hW
    rw [wkI]
    cases hq : ndP S 12 with
    | none => exact h
    | some c =>
      obtain ⟨h1, h2, _⟩ := ndP_some hq
      exact ih (h.wk h1 h2 (hW c h1)) (fun d hd => WFc_mv (hW d hd) (fun j => wkS_sm S c 74 j (by decide) (by decide) (by decide)) (fun j => wkS_sm S c 75 j (by decide) (by decide) (by decide)))
theorem XI.works {S : zS2} (h : XI S) (hR : RI S) : XI (worksF S) := XI.wki 12 h hR.1
theorem loadN_vb {S : zS2} {s : Nat} (h : 0 ≤ S 85 s ∧ S 85 s ≤ 1000) : vb (loadN S s) := by
  have h1 : (0 : Int) ≤ (S 85 s).toInt := Int32.le_iff_toInt_le.mp h.1
  have h2 : (S 85 s).toInt ≤ 1000 := Int32.le_iff_toInt_le.mp h.2
  unfold loadN vb
  dsimp only
  generalize (if S 83 s < 0 then S 85 s else S 88 (S 83 s).toNatClampNeg) = m
  have key : ∀ m2 : Int32, m2.toInt ≤ 1000 → -1000000 ≤ (if S 92 s ≠ 2 ∨ m2 < 0 then 0 else m2).toInt ∧ (if S 92 s ≠ 2 ∨ m2 < 0 then 0 else m2).toInt ≤ 1000000 := by
    intro m2 h3
    split
    · exact ⟨by decide, by decide⟩
    · rename_i q
      have h5 : ¬ m2.toInt < (0 : Int32).toInt := fun z => q (Or.inr (Int32.lt_iff_toInt_lt.mpr z))
      simp at h5
      omega
  apply key
  split
  · rename_i h3
    have h4 := Int32.lt_iff_toInt_lt.mp h3
    omega
  · exact h2
theorem changeF_XI {S : zS2} (h : XI S) (s : Nat) : XI (changeF S s) := by
  unfold changeF
  split
  · exact h.state (Or.inl rfl)
  · split
    · split
      · unfold runF
        exact XI.oth (XI.state (XI.state (XI.oth (h.oth (by decide)) (by decide)) (by decide)) (by decide)) (by decide)
      · exact XI.state (XI.oth (h.oth (by decide)) (by decide)) (by decide)
    · split
      · unfold runF
        exact XI.oth (h.state (by decide)) (by decide)
      · exact h
theorem XI.rd1 {S : zS2} (h : XI S) {s : Nat} (hs : s < 5) : XI (rdS S s) := by
  have h1 : XI (rdC S s) := by
    unfold rdC
    split
    · exact h
    · exact changeF_XI h s
  have h2 : XI (rdL (rdC S s) s) := h1.oth (by decide)
  refine h2.told ?_
  unfold rdT
  split
  · rename_i q
    rcases (h2.2.2.2.2 s hs).2.2.1 with e | e
    · rw [e] at q; exact absurd q.1 (by decide)
    · unfold vb
      have a1 := Int32.le_iff_toInt_le.mp e.1
      have a2 := Int32.le_iff_toInt_le.mp e.2
      simp at a1 a2
      omega
  · unfold rdL
    rw [zu_eq]
    exact loadN_vb (h1.2.2.2.2 s hs).2.1
theorem XI.rd {S : zS2} (h : XI S) : ∀ {n : Nat}, n ≤ 5 → XI (rdP S n) := by
  intro n
  induction n with
  | zero => exact fun _ => h
  | succ n ih => exact fun hn => (ih (by omega)).rd1 (by omega)
theorem XI.round {S : zS2} (h : XI S) (hR : RI S) : XI (roundF S) := (h.works hR).rd (Nat.le_refl 5)
theorem XI.cut {S : zS2} (h : XI S) (k : Nat) : XI (cutF S k) := XI.told (XI.oth (h.state (by decide)) (by decide)) (by unfold vb; decide)
theorem XI.blk : ∀ (r : Nat) {S : zS2} {late : Int32}, RI S → XI S → XI (blkF r S late).1 := by
  intro r
  induction r with
  | zero => intro S late _ h; exact h
  | succ r ih =>
    intro S late hR h
    by_cases q : maskF S = 0
    · rw [blkF_0 late q]; dsimp only; exact h.round hR
    · rw [blkF_1 late q]; dsimp only; exact ih hR.round (h.round hR)
theorem XI.set : ∀ (f : Nat) {S : zS2}, RI S → XI S → XI (setF f S).1 := by
  intro f
  induction f with
  | zero => intro S _ h; exact h
  | succ f ih =>
    intro S hR h
    obtain ⟨g1, -⟩ := blkF_ok 40 S 0 hR (fun k _ hb => by rw [b_0] at hb; cases hb)
    rw [setF]
    split
    · exact XI.blk 40 hR h
    · exact ih (g1.cut _) ((XI.blk 40 hR h).cut _)

