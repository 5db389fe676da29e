theorem nm_le {S : zS2} {L p : Nat} (h : nmBad S L p = false) (hp : p < L) : nmP S L p ≤ L := by
  simp only [nmBad, Bool.or_eq_false_iff, decide_eq_false_iff_not] at h
  unfold nmP
  split
  · rename_i q
    simp only [nmTwo, Bool.and_eq_true, decide_eq_true_eq] at q
    omega
  · omega
theorem bdR_r (s : Nat × List Nat) (f : Nat → List Nat → zDR) : bdR (.inr s) f = f s.1 s.2 := rfl
theorem pt_ok {S : zS2} {L : Nat} (hL : L ≤ 30) : ∀ f p0, 31 ≤ f + p0 → PCl S L 4 (fun _ => True) (fun _ => True) (dP S L f) p0 := by
  intro f
  induction f with
  | zero => intro p0 h p kc op f fs h0 h1 _; omega
  | succ f ih =>
    intro p0 h p kc op g fs h0 h1 _
    have hPf := ih (p0 + 1) (by omega)
    have hFf := fo_ok hL (sm_ok hL (pr_ok hL hPf))
    rw [dP_s]
    generalize hFg : foR S L (smR S L (prR S L (dP S L f))) = F at hFf
    by_cases hlt : p < L
    · have e := ltr_in (S := S) hlt
      unfold dPs
      rw [e]
      by_cases hfg : figB (S 68 p) = true
      · rw [if_pos hfg]
        have hd1 : 0 < ndF S L p 4 := ndF_pos (f := 3) hlt hfg
        have hd2 := ndF_L S L 4 p (by omega)
        exact ⟨by dsimp only; omega, hd2, trivial, _, _, mch_r hL hlt (st_num hfg), EQc.rf _ _ _⟩
      · rw [if_neg hfg]
        by_cases h45 : S 68 p = 45
        · rw [if_pos h45]
          have hp := hPf (p + 1) kc (1 :: op) g fs (by omega) (by omega) trivial
          have hm := mch_r (ks := kc) (op := op) (fr := g :: fs) hL hlt (st_neg h45)
          cases hX : dP S L f (p + 1) kc with
          | inl q => rw [hX] at hp; exact ⟨hp.1, by rw [hm]; exact hp.2⟩
          | inr s =>
            obtain ⟨p2, k2⟩ := s
            rw [hX] at hp
            obtain ⟨a1, a2, -, ks2, op2, a3, a4⟩ := hp
            dsimp only at a1 a2 a3 a4
            exact ⟨by dsimp only; omega, a2, trivial, ks2, op2, hm.trans a3, a4.wr (by decide) (by decide) (by decide)⟩
        · rw [if_neg h45]
          by_cases h40 : S 68 p = 40
          · rw [if_pos h40]
            have hm := mch_r (ks := kc) (op := op) (fr := g :: fs) hL hlt (st_opn h40 hlt)
            have hb := br_loop hL hFf (op := op) (o := 40) (fr := g :: fs) (by simp) 0 (p + 1) kc (by omega) (by omega)
            unfold brR sgR
            rw [if_pos (e.trans h40), bdR_r]
            dsimp only
            cases hX : brL S L F 1 (p + 1) kc with
            | inl q => rw [show (0 : Nat) + 1 = 1 from rfl, hX] at hb; exact ⟨hb.1, by rw [hm]; exact hb.2⟩
            | inr s =>
              rw [show (0 : Nat) + 1 = 1 from rfl, hX] at hb
              exact ⟨by have := hb.1; omega, hb.2.1, trivial, s.2, op, hm.trans hb.2.2, EQc.rf _ _ _⟩
          · rw [if_neg h40]
            by_cases hn : namB (S 68 p) = true
            · rw [if_pos hn]
              have hst := st_nam (S := S) (L := L) (p := p) (ks := kc) (op := op) (fr := g :: fs) hn
              unfold nmR
              cases hb : nmBad S L p with
              | true =>
                rw [if_pos rfl]
                rw [hb, if_pos rfl] at hst
                exact ⟨hlt, by rw [mch_l hlt hst]; rfl⟩
              | false =>
                rw [if_neg (by decide)]
                rw [hb, if_neg (by decide)] at hst
                have hpb := stF_lt hlt hst
                exact ⟨hpb, nm_le hb hlt, trivial, _, _, mch_r hL hlt hst, EQc.rf _ _ _⟩
            · rw [if_neg hn]
              by_cases hf : funB (S 68 p) = true
              · rw [if_pos hf]
                have hst := st_fun (S := S) (L := L) (p := p) (ks := kc) (op := op) (fr := g :: fs) hf
                unfold brR sgR
                by_cases h2 : ltr S L (p + 1) = 40
                · rw [if_pos h2, bdR_r]
                  dsimp only
                  have hlt2 := ltr_ne (S := S) (L := L) (p := p + 1) (by rw [h2]; decide)
                  have h2' : S 68 (p + 1) = 40 := (ltr_in hlt2).symm.trans h2
                  rw [if_neg (fun q => q.elim (fun z => by omega) (fun z => z h2'))] at hst
                  have hm := mch_r hL hlt hst
                  have go : ∀ n : Nat, (if S 68 p = 105 then 3 else 2) = n + 1 → SmP S L 4 (fun _ => True) (bdR (brL S L F (n + 1) (p + 1 + 1) kc) (fun q k => .inr (q, (30000 + fnD (S 68 p)) :: k))) p kc op (g :: fs) := by
                    intro n hn1
                    rw [hn1] at hm
                    have hb := br_loop hL hFf (op := op) (o := txN S p) (fr := g :: fs) (by simp) n (p + 1 + 1) kc (by omega) (by omega)
                    have ht : ∀ k, tkO (txN S p) k = (30000 + fnD (S 68 p)) :: k := by
                      intro k
                      rcases funB_c hf with z | z | z <;> (rw [z]; rw [txN_k z (by decide)]; rfl)
                    cases hX : brL S L F (n + 1) (p + 1 + 1) kc with
                    | inl q => rw [hX] at hb; exact ⟨hb.1, by rw [hm]; exact hb.2⟩
                    | inr s =>
                      rw [hX] at hb
                      exact ⟨by have := hb.1; dsimp only; omega, hb.2.1, trivial, _, op, hm.trans (hb.2.2.trans (by rw [ht])), EQc.rf _ _ _⟩
                  by_cases h105 : S 68 p = 105
                  · rw [if_pos h105]; exact go 2 (if_pos h105)
                  · rw [if_neg h105]; exact go 1 (if_neg h105)
                · rw [if_neg h2]
                  have hbad : p + 1 = L ∨ S 68 (p + 1) ≠ 40 := by
                    by_cases z : p + 1 = L
                    · exact Or.inl z
                    · refine Or.inr (fun q => h2 ?_)
                      rw [ltr_in (by omega)]; exact q
                  rw [if_pos hbad] at hst
                  exact ⟨hlt, by rw [mch_l hlt hst]; rfl⟩
              · rw [if_neg hf]
                exact ⟨by omega, by rw [mch_l hlt (st_bad hfg h45 h40 hn hf)]; rfl⟩
    · have e := ltr_out (S := S) hlt
      unfold dPs
      rw [e, if_neg (by decide), if_neg (by decide), if_neg (by decide), if_neg (by decide), if_neg (by decide)]
      exact ⟨h1, by rw [mch_e hlt, fltI_1]; exact congrArg nI (by omega)⟩
/-- the descent and the reference: the same fault; without one, the same tokens -/
theorem dR0_ok {S : zS2} {L : Nat} (hL : L ≤ 30) : cFl (dR0 S L) L = fltI (rdF S L) L ∧ (fltI (rdF S L) L = -1 → dR0 S L = .inr (L, (rdK (rdF S L)).1) ∧ (rdK (rdF S L)).2 = []) := by
  have hF := fo_ok hL (sm_ok hL (pr_ok hL (pt_ok (S := S) hL 31 0 (by decide)))) 0 [] [] (false, 40, 1) [] (Nat.le_refl _) (Nat.zero_le _) trivial rfl
  have er : rdF S L = mch S L true 0 [] [] [(false, 40, 1)] := rfl
  have hn : ∀ q, q ≤ L → nI q ≠ -1 := fun q hq => nI_ne1 (by omega)
  unfold dR0
  cases hX : foR S L (smR S L (prR S L (dP S L 31))) 0 [] with
  | inl q =>
    rw [hX] at hF
    obtain ⟨a1, a2⟩ := hF
    rw [er, a2]
    exact ⟨rfl, fun z => absurd z (hn q a1)⟩
  | inr s =>
    obtain ⟨p1, k1⟩ := s
    rw [hX] at hF
    obtain ⟨a1, a2, ks2, op2, b, a3, a4, a5, a6⟩ := hF
    dsimp only at a1 a2 a3 a4 a5 a6
    rw [er, a3]
    by_cases hlt : p1 < L
    · have e := ltr_in (S := S) hlt
      rw [e] at a5 a6
      rw [mch_l hlt (sf_bad (f := (b, 40, 1)) a5.1 a5.2.1 a5.2.2 a6 (fun q => q.2.1 rfl) (fun q => q.2.1 rfl))]
      exact ⟨if_pos hlt, fun z => absurd z (hn p1 a2)⟩
    · have ep : p1 = L := by omega
      rw [mch_e hlt, fltI_3 _ _ _ _ _ rfl]
      have hcl : clsF 0 ks2 op2 = (k1, []) := a4.low (Nat.zero_le _) trivial
      refine ⟨if_neg hlt, fun _ => ?_⟩
      rw [show rdK (.inr (false, p1, ks2, op2, [(b, (false, 40, 1).2)])) = (k1, []) from hcl, ep]
      exact ⟨rfl, rfl⟩

