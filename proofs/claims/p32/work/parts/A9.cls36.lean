/-- the descent of the whole text; the fault that is told -/
def dR0 (S : zS2) (L : Nat) : zDR := foR S L (smR S L (prR S L (dP S L 31))) 0 []
def cFl (R : zDR) (L : Nat) : Int32 := match R with
  | .inl q => nI q
  | .inr s => if s.1 < L then nI s.1 else -1
theorem CW.pf {n : Nat} {S : zS2} {μ : zMem} {σ σ' : zS2} {π : zP2} (h : CW n S μ σ π) (hf : zPf σ σ') : CW n S μ σ' π := by
  have hn := h.nn
  have io : ∀ b, Io b ∨ Im b → b ≠ 3 ∧ b ≠ 4 := fun b hb => by unfold Io Im at hb; omega
  have f : ∀ b, b ≠ 3 ∧ b ≠ 4 → ∀ j, σ' b j = σ b j := fun b hb j => hf b j hb.1 hb.2
  refine ⟨h.1, ⟨h.t35.1, ⟨fun i hi => (f _ (by omega) _).trans (h.t35.2.1.1 i hi), fun i hi => (f _ (by omega) _).trans (h.t35.2.1.2 i hi)⟩, h.t35.2.2.mv (by omega) zgr.rf (fun b hb j => f b (by omega) j) (fun _ _ _ => rfl)⟩, h.z5.mv (by omega) zgr.rf (fun b hb j => f b (by omega) j) (fun _ _ _ => rfl), ⟨h.m.1.fr zgr.rf (fun b hb j => f b (hb.elim (fun q => ⟨by omega, by omega⟩) (fun q => io b (Or.inr q.1))) j) (fun _ _ _ => rfl), h.m.2⟩, (f 0 (by decide) _).trans h.ct, fun k hk => ?_, ⟨(f 66 (by decide) _).trans h.one.1, (f 66 (by decide) _).trans h.one.2⟩, (f 1 (by decide) _).trans h.tl, fun i hi => (f 2 (by decide) _).trans (h.tx hi)⟩
  obtain ⟨sp, e, hsp⟩ := h.st hk
  exact ⟨sp, e, hsp.mv zgr.rf (fun b hb _ j => f b (io b hb) j) (fun _ _ _ _ => rfl) (fun _ _ => rfl) (fun _ _ => rfl)⟩
theorem CW.ph {n : Nat} {S : zS2} {μ : zMem} {σ : zS2} {π : zP2} (h : CW n S μ σ π) : zPh μ π := ⟨⟨h.k1, h.q1, h.k2, h.l2⟩, h.k3, h.q30, h.q31, h.k4, h.l4⟩
/-- the text: as long as it says, letters -/
def TX (L : Nat) (S : zS2) : Prop := S 67 1 = nI L ∧ L ≤ 30 ∧ ∀ i, i < 30 → chV (S 68 i)
theorem CW.txx {n L : Nat} {S : zS2} {μ : zMem} {σ : zS2} {π : zP2} (h : CW n S μ σ π) (hL : TX L S) : zTx S L σ := ⟨h.tl.trans hL.1, hL.2.1, fun _ hi => h.tx hi, hL.2.2⟩
set_option maxRecDepth 100000 in
set_option maxHeartbeats 4000000 in
theorem c_X2_findFault {l : Launch} {Z : zZ} (hZ : zSt l Z) {μ : zMem} {σ : zS2} {π : zP2} {g : zG2} {S : zS2} {L : Nat} (hH : zPh μ π) (hX : zTx S L σ) : zCt l Z mX2_findFault 162 0 0 [.ref 3] (zA4 μ σ π g) (fun r μ' => r = some (.int (cFl (dR0 S L) L)) ∧ ∃ σ', μ' = zA4 μ σ' π g ∧ zPf σ σ' ∧ ∀ p ks, dR0 S L = .inr (p, ks) → zPp L p ks 0 σ') := by
  refine zCt_of hZ mpX2_findFault (Nat.le_of_ble_eq_true rfl) (L := [some (.ref 3)]) rfl (fun τ hY => ?_)
  have hT := hY.1
  have h30 := hX.2.1
  obtain ⟨R, hR⟩ : ∃ x, x = dR0 S L := ⟨_, rfl⟩
  rw [← hR]
  refine J_aload_n (i := 0) hT dX2_findFault_0 rfl rfl ?_
  refine J_iconst (v := 0) hT dX2_findFault_1 rfl ?_
  refine R_putI hT fX2_15 rfl rfl dX2_findFault_2 hH.k3 ?_
  refine J_aload_n (i := 0) hT dX2_findFault_5 rfl rfl ?_
  refine J_iconst (v := 0) hT dX2_findFault_6 rfl ?_
  refine R_putI hT fX2_19 rfl rfl dX2_findFault_7 hH.k3 ?_
  refine J_aload_n (i := 0) hT dX2_findFault_10 rfl rfl ?_
  refine J_iconst (v := 0) hT dX2_findFault_11 rfl ?_
  refine R_putI hT fX2_22 rfl rfl dX2_findFault_12 hH.k3 ?_
  refine J_aload_n (i := 0) hT dX2_findFault_15 rfl rfl ?_
  refine J_iconst (v := 0) hT dX2_findFault_16 rfl ?_
  refine R_putZ hT fX2_25 rfl rfl (by decide) dX2_findFault_17 hH.k3 ?_
  obtain ⟨σ0, hσ0⟩ : ∃ x, x = zu (zu (zu (zu σ 3 2 0) 3 3 0) 3 4 0) 3 5 0 := ⟨_, rfl⟩
  have hf0 : zPf σ σ0 := by rw [hσ0]; exact (zPf.u3 _ _ _).tr ((zPf.u3 _ _ _).tr ((zPf.u3 _ _ _).tr (zPf.u3 _ _ _)))
  have hP0 : zPp L 0 [] 0 σ0 := by rw [hσ0]; exact ⟨by simp [zu]; rfl, by simp [zu, pkm], by simp [zu]; rfl, by simp [zu], trivial, Nat.le_refl _, Nat.zero_le _⟩
  have hFO := (c_X2_part (S := S) (L := L) hZ hH (g := g) 31 (Nat.le_refl _)).2 σ0 0 0 [] (hX.mv hf0) hP0
  rw [show foR S L (smR S L (prR S L (dP S L 31))) 0 [] = R from hR.symm] at hFO
  refine J_mu (congrArg (fun s => zA4 μ s π g) hσ0.symm) ?_
  refine J_aload_n (i := 0) hT dX2_findFault_20 rfl rfl ?_
  refine J_iconst (v := 0) hT dX2_findFault_21 rfl ?_
  refine J_callV (ci := 2) hY dX2_findFault_22 mfX2_passFormula miX2_passFormula msX2_passFormula kX2_33 ⟨by decide, rfl⟩ hH.k3 hFO rfl (by decide) rfl rfl (Nat.le_of_ble_eq_true rfl) (Nat.le_refl _) (Nat.le_refl _) (fun r1 μ1 hq1 => ?_)
  obtain ⟨rfl, σ1, rfl, hf1, hR1⟩ := hq1
  show zJ _ _ _ _ [] _ _ _
  have hTx1 := (hX.mv hf0).mv hf1
  cases R with
  | inl q =>
    obtain ⟨z1, z2, z3⟩ := hR1
    refine J_aload_n (i := 0) hT dX2_findFault_25 rfl rfl ?_
    refine R_getI hT fX2_25 rfl dX2_findFault_26 hH.k3 ?_
    refine J_if_ne (tgt := 46) hT dX2_findFault_29 (by decide) (fun _ => ?_) (fun q => absurd q ((by rw [z3]; decide)))
    refine J_aload_n (i := 0) hT dX2_findFault_46 rfl rfl ?_
    refine R_getI hT fX2_22 rfl dX2_findFault_47 hH.k3 ?_
    refine J_topil (z2) ?_
    refine J_goto (tgt := 54) hT dX2_findFault_50 (by decide) ?_
    exact J_iret hT dX2_findFault_54 rfl rfl (⟨rfl, _, rfl, hf0.tr hf1, fun p ks q => by cases q⟩) (Nat.le_refl _) (Nat.le_refl _)
  | inr s =>
    obtain ⟨p1, k1⟩ := s
    have hP1 : zPp L p1 k1 0 σ1 := hR1
    obtain ⟨y2, y3, y4, y5, y6, y7, y8⟩ := id hP1
    by_cases hl : p1 < L
    · refine J_aload_n (i := 0) hT dX2_findFault_25 rfl rfl ?_
      refine R_getI hT fX2_25 rfl dX2_findFault_26 hH.k3 ?_
      refine J_if_ne (tgt := 46) hT dX2_findFault_29 (by decide) (fun q => absurd (y5) q) (fun _ => ?_)
      refine J_aload_n (i := 0) hT dX2_findFault_32 rfl rfl ?_
      refine R_getI hT fX2_22 rfl dX2_findFault_33 hH.k3 ?_
      refine J_topil (y4) ?_
      refine J_aload_n (i := 0) hT dX2_findFault_36 rfl rfl ?_
      refine R_getP hT fX2_29 rfl dX2_findFault_37 hH.k3 hH.q30 ?_
      refine R_getI hT fX2_37 rfl dX2_findFault_40 hH.k1 ?_
      refine J_topil (hTx1.1) ?_
      refine J_icmp_ge (tgt := 53) hT dX2_findFault_43 (by decide) (fun q => absurd q (Int32.not_le.mpr (nI_lt (a := p1) (b := L) hl (by omega)))) (fun _ => ?_)
      refine J_aload_n (i := 0) hT dX2_findFault_46 rfl rfl ?_
      refine R_getI hT fX2_22 rfl dX2_findFault_47 hH.k3 ?_
      refine J_topil (y4) ?_
      refine J_goto (tgt := 54) hT dX2_findFault_50 (by decide) ?_
      exact J_iret hT dX2_findFault_54 rfl rfl (⟨(by rw [cFl]; dsimp only; rw [if_pos hl]), _, rfl, hf0.tr hf1, fun p ks q => by cases q; exact hP1⟩) (Nat.le_refl _) (Nat.le_refl _)
    · refine J_aload_n (i := 0) hT dX2_findFault_25 rfl rfl ?_
      refine R_getI hT fX2_25 rfl dX2_findFault_26 hH.k3 ?_
      refine J_if_ne (tgt := 46) hT dX2_findFault_29 (by decide) (fun q => absurd (y5) q) (fun _ => ?_)
      refine J_aload_n (i := 0) hT dX2_findFault_32 rfl rfl ?_
      refine R_getI hT fX2_22 rfl dX2_findFault_33 hH.k3 ?_
      refine J_topil (y4) ?_
      refine J_aload_n (i := 0) hT dX2_findFault_36 rfl rfl ?_
      refine R_getP hT fX2_29 rfl dX2_findFault_37 hH.k3 hH.q30 ?_
      refine R_getI hT fX2_37 rfl dX2_findFault_40 hH.k1 ?_
      refine J_topil (hTx1.1) ?_
      refine J_icmp_ge (tgt := 53) hT dX2_findFault_43 (by decide) (fun _ => ?_) (fun q => absurd (nI_le (a := L) (b := p1) (by omega) (by omega)) q)
      refine J_iconst (v := -1) hT dX2_findFault_53 rfl ?_
      exact J_iret hT dX2_findFault_54 rfl rfl (⟨(by rw [cFl]; dsimp only; rw [if_neg hl]), _, rfl, hf0.tr hf1, fun p ks q => by cases q; exact hP1⟩) (Nat.le_refl _) (Nat.le_refl _)


