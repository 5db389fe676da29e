/-- a formula, from where its first operand is wanted -/
def SmF (S : zS2) (L : Nat) (X : zDR) (p : Nat) (kc op : List Nat) (f : Bool × Nat × Nat) (fs : zFL) : Prop := match X with
  | .inl q => q ≤ L ∧ fltI (mch S L true p kc op (f :: fs)) L = nI q
  | .inr s => p < s.1 ∧ s.1 ≤ L ∧ ∃ ks' op' b, mch S L true p kc op (f :: fs) = mch S L false s.1 ks' op' ((b, f.2) :: fs) ∧ EQc 1 ks' op' s.2 op ∧ nOp (ltr S L s.1) ∧ (b = true ∨ cmpO (ltr S L s.1) = -1)
def FCl (S : zS2) (L : Nat) (F : Nat → List Nat → zDR) (p0 : Nat) : Prop := ∀ (p : Nat) (kc op : List Nat) (f : Bool × Nat × Nat) (fs : zFL), p0 ≤ p → p ≤ L → lowR 1 op → f.1 = false → SmF S L (F p kc) p kc op f fs
theorem rk_cm : ∀ a : Int32, rkN (cmD a) = 1 ∧ cmD a ≠ 11 := by
  intro a
  unfold cmD
  split
  · decide
  · split <;> decide
theorem fo_ok {S : zS2} {L p0 : Nat} (hL : L ≤ 30) {P : Nat → List Nat → zDR} (hP : PCl S L 2 (lowR 2) nOp P p0) : FCl S L (foR S L P) p0 := by
  intro p kc op f fs h0 h1 hop hf
  have hp := hP p kc op f fs h0 h1 (hop.le (by decide))
  unfold foR
  cases hX : P p kc with
  | inl q => rw [hX] at hp; exact hp
  | inr s =>
    obtain ⟨p1, k1⟩ := s
    rw [hX] at hp
    obtain ⟨a1, a2, a5, ks2, op2, a3, a4⟩ := hp
    dsimp only at a1 a2 a3 a4 a5
    show SmF S L (if cmpO (ltr S L p1) = -1 then .inr (p1, k1) else bdR (P (p1 + 1) k1) (fun q2 k2 => .inr (q2, (30000 + cmD (ltr S L p1)) :: k2))) p kc op f fs
    by_cases hc : cmpO (ltr S L p1) = -1
    · rw [if_pos hc]
      exact ⟨a1, a2, ks2, op2, f.1, a3, a4.le (by decide), a5, Or.inr hc⟩
    · rw [if_neg hc]
      obtain ⟨-, c2, -, -⟩ := cmpO_D hc
      have hlt := ltr_ne c2
      have hs' : S 68 p1 = ltr S L p1 := (ltr_in hlt).symm
      obtain ⟨r1, r2⟩ := rk_cm (ltr S L p1)
      have hm : mch S L false p1 ks2 op2 (f :: fs) = mch S L true (p1 + 1) k1 (cmD (ltr S L p1) :: op) ((true, f.2) :: fs) := by
        rw [mch_r hL hlt (sf_cmp hs' hc hf), a4.low (r' := 1) (by decide) hop]
      have hq := hP (p1 + 1) k1 (cmD (ltr S L p1) :: op) (true, f.2) fs (by omega) (by omega) (lowR.op op (by omega))
      cases hY : P (p1 + 1) k1 with
      | inl q => rw [hY] at hq; exact ⟨hq.1, by rw [a3, hm]; exact hq.2⟩
      | inr s =>
        obtain ⟨p2, k2⟩ := s
        rw [hY] at hq
        obtain ⟨b1, b2, b5, ks3, op3, b3, b4⟩ := hq
        dsimp only at b1 b2 b3 b4 b5
        exact ⟨by dsimp only; omega, b2, ks3, op3, true, by rw [a3, hm]; exact b3, b4.wr r2 (by decide) (by omega), b5, Or.inl rfl⟩
def tkO (o : Nat) (k : List Nat) : List Nat := if o ≠ 40 then (30000 + (if o = 109 then 8 else if o = 110 then 9 else 10)) :: k else k
theorem br_loop {S : zS2} {L p0 : Nat} (hL : L ≤ 30) {F : Nat → List Nat → zDR} (hF : FCl S L F p0) {op : List Nat} {o : Nat} {fr : zFL} (hfr : fr ≠ []) : ∀ n p kc, p0 ≤ p → p ≤ L → (match brL S L F (n + 1) p kc with
  | .inl q => q ≤ L ∧ fltI (mch S L true p kc (11 :: op) ((false, o, n + 1) :: fr)) L = nI q
  | .inr s => p < s.1 ∧ s.1 ≤ L ∧ mch S L true p kc (11 :: op) ((false, o, n + 1) :: fr) = mch S L false s.1 (tkO o s.2) op fr) := by
  intro n
  induction n with
  | zero =>
    intro p kc h0 h1
    have hp := hF p kc (11 :: op) (false, o, 0 + 1) fr h0 h1 (lowR.op11 op) rfl
    rw [brL]
    cases hX : F p kc with
    | inl q => rw [hX] at hp; exact hp
    | inr s =>
      obtain ⟨p1, k1⟩ := s
      rw [hX] at hp
      obtain ⟨a1, a2, ks2, op2, b, a3, a4, a5, a6⟩ := hp
      dsimp only at a1 a2 a3 a4 a5 a6
      have hcl : clsF 0 ks2 op2 = (k1, 11 :: op) := a4.low (Nat.zero_le _) (lowR.op11 op)
      show (match bdR (sgR S L (if (0 : Nat) = 0 then 41 else 44) p1 k1) (brL S L F 0) with
        | .inl q => _
        | .inr s => _)
      rw [if_pos rfl]
      unfold sgR
      by_cases hs : ltr S L p1 = 41
      · rw [if_pos hs]
        have hlt := ltr_ne (S := S) (L := L) (p := p1) (by rw [hs]; decide)
        have hs' : S 68 p1 = 41 := (ltr_in hlt).symm.trans hs
        have hm := mch_r hL hlt (sf_shut (ks := ks2) (op := op2) (f := (b, o, 0 + 1)) hs' hfr rfl)
        refine ⟨by dsimp only; omega, hlt, ?_⟩
        rw [a3, hm, hcl]
        rfl
      · rw [if_neg hs]
        refine ⟨a2, ?_⟩
        rw [a3]
        by_cases hlt : p1 < L
        · have e := ltr_in (S := S) hlt
          rw [e] at a5 a6 hs
          rw [mch_l hlt (sf_bad (f := (b, o, 0 + 1)) a5.1 a5.2.1 a5.2.2 a6 (fun q => absurd q.2.2 (Nat.lt_irrefl 1)) (fun q => hs q.1))]
          rfl
        · rw [mch_e hlt, fltI_2]
          · exact congrArg nI (by omega)
          · simp only [List.length_cons, ne_eq]
            have := List.length_pos_iff.mpr hfr
            omega
  | succ n ih =>
    intro p kc h0 h1
    have hp := hF p kc (11 :: op) (false, o, n + 1 + 1) fr h0 h1 (lowR.op11 op) rfl
    rw [brL]
    cases hX : F p kc with
    | inl q => rw [hX] at hp; exact hp
    | inr s =>
      obtain ⟨p1, k1⟩ := s
      rw [hX] at hp
      obtain ⟨a1, a2, ks2, op2, b, a3, a4, a5, a6⟩ := hp
      dsimp only at a1 a2 a3 a4 a5 a6
      have hcl : clsF 0 ks2 op2 = (k1, 11 :: op) := a4.low (Nat.zero_le _) (lowR.op11 op)
      show (match bdR (sgR S L (if n + 1 = 0 then 41 else 44) p1 k1) (brL S L F (n + 1)) with
        | .inl q => _
        | .inr s => _)
      rw [if_neg (by omega)]
      unfold sgR
      by_cases hs : ltr S L p1 = 44
      · rw [if_pos hs]
        have hlt := ltr_ne (S := S) (L := L) (p := p1) (by rw [hs]; decide)
        have hs' : S 68 p1 = 44 := (ltr_in hlt).symm.trans hs
        have hm := mch_r hL hlt (sf_comma (ks := ks2) (op := op2) (f := (b, o, n + 1 + 1)) hs' hfr (by dsimp only; omega))
        rw [hcl] at hm
        have hm2 : mch S L false p1 ks2 op2 ((b, o, n + 1 + 1) :: fr) = mch S L true (p1 + 1) k1 (11 :: op) ((false, o, n + 1) :: fr) := hm
        have hi := ih (p1 + 1) k1 (by omega) (by omega)
        show (match brL S L F (n + 1) (p1 + 1) k1 with
          | .inl q => _
          | .inr s => _)
        cases hY : brL S L F (n + 1) (p1 + 1) k1 with
        | inl q => rw [hY] at hi; exact ⟨hi.1, by rw [a3, hm2]; exact hi.2⟩
        | inr s => rw [hY] at hi; exact ⟨by have := hi.1; omega, hi.2.1, by rw [a3, hm2]; exact hi.2.2⟩
      · rw [if_neg hs]
        refine ⟨a2, ?_⟩
        rw [a3]
        by_cases hlt : p1 < L
        · have e := ltr_in (S := S) hlt
          rw [e] at a5 a6 hs
          rw [mch_l hlt (sf_bad (f := (b, o, n + 1 + 1)) a5.1 a5.2.1 a5.2.2 a6 (fun q => hs q.1) (fun q => by have := q.2.2; dsimp only at this; omega))]
          rfl
        · rw [mch_e hlt, fltI_2]
          · exact congrArg nI (by omega)
          · simp only [List.length_cons, ne_eq]
            have := List.length_pos_iff.mpr hfr
            omega

