/-! ===== the class's descent, as functions ===== -/
abbrev zDR : Type := Nat ⊕ (Nat × List Nat)
def bdR (x : zDR) (f : Nat → List Nat → zDR) : zDR := match x with
  | .inl q => .inl q
  | .inr s => f s.1 s.2
def prL (S : zS2) (L : Nat) (P : Nat → List Nat → zDR) : Nat → Nat → List Nat → zDR
  | 0, p, ks => .inr (p, ks)
  | n + 1, p, ks => if ltr S L p = 42 then bdR (P (p + 1) ks) (fun q k => prL S L P n q (30004 :: k)) else .inr (p, ks)
def prR (S : zS2) (L : Nat) (P : Nat → List Nat → zDR) (p : Nat) (ks : List Nat) : zDR := bdR (P p ks) (prL S L P 30)
def smL (S : zS2) (L : Nat) (P : Nat → List Nat → zDR) : Nat → Nat → List Nat → zDR
  | 0, p, ks => .inr (p, ks)
  | n + 1, p, ks => if ltr S L p = 43 then bdR (P (p + 1) ks) (fun q k => smL S L P n q (30002 :: k)) else if ltr S L p = 45 then bdR (P (p + 1) ks) (fun q k => smL S L P n q (30003 :: k)) else .inr (p, ks)
def smR (S : zS2) (L : Nat) (P : Nat → List Nat → zDR) (p : Nat) (ks : List Nat) : zDR := bdR (P p ks) (smL S L P 30)
def cmD (a : Int32) : Nat := if a = 60 then 5 else if a = 62 then 6 else 7
def foR (S : zS2) (L : Nat) (P : Nat → List Nat → zDR) (p : Nat) (ks : List Nat) : zDR := bdR (P p ks) (fun q k => if cmpO (ltr S L q) = -1 then .inr (q, k) else bdR (P (q + 1) k) (fun q2 k2 => .inr (q2, (30000 + cmD (ltr S L q)) :: k2)))
def brL (S : zS2) (L : Nat) (P : Nat → List Nat → zDR) : Nat → Nat → List Nat → zDR
  | 0, p, ks => .inr (p, ks)
  | n + 1, p, ks => bdR (P p ks) (fun q k => bdR (sgR S L (if n = 0 then 41 else 44) q k) (brL S L P n))
def brR (S : zS2) (L : Nat) (P : Nat → List Nat → zDR) (n p : Nat) (ks : List Nat) : zDR := bdR (sgR S L 40 p ks) (brL S L P n)
def fnD (a : Int32) : Nat := if a = 109 then 8 else if a = 110 then 9 else 10
def dP (S : zS2) (L : Nat) : Nat → Nat → List Nat → zDR
  | 0, p, _ => .inl p
  | f + 1, p, ks => if figB (ltr S L p) = true then nuR S L p ks else if ltr S L p = 45 then bdR (dP S L f (p + 1) ks) (fun q k => .inr (q, 30001 :: k)) else if ltr S L p = 40 then brR S L (foR S L (smR S L (prR S L (dP S L f)))) 1 p ks else if namB (ltr S L p) = true then nmR S L p ks else if funB (ltr S L p) = true then bdR (brR S L (foR S L (smR S L (prR S L (dP S L f)))) (if ltr S L p = 105 then 3 else 2) (p + 1) ks) (fun q k => .inr (q, (30000 + fnD (ltr S L p)) :: k)) else .inl p
/-- what a method of the parser gives, at every place -/
def zPk (l : Launch) (Z : zZ) (μ : zMem) (π : zP2) (g : zG2) (S : zS2) (L : Nat) (M : zM) (k : Nat) (as : List Value) (R : Nat → List Nat → zDR) : Prop := ∀ (σ : zS2) (p b : Nat) (ks : List Nat), zTx S L σ → zPp L p ks b σ → zCt l Z M k 0 0 as (zA4 μ σ π g) (zPq L b μ σ π g (R p ks))
theorem cmpO_D {a : Int32} (h : cmpO a ≠ -1) : cmpO a = nI (cmD a + 3) ∧ a ≠ 0 ∧ 1 ≤ cmD a ∧ cmD a < 11 := by
  unfold cmpO at h ⊢
  unfold cmD
  by_cases h1 : a = 60
  · rw [h1]; decide
  · by_cases h2 : a = 62
    · rw [h2]; decide
    · by_cases h3 : a = 61
      · rw [h3]; decide
      · rw [if_neg h1, if_neg h2, if_neg h3] at h; exact absurd rfl h
theorem zPR.le {L b b' : Nat} {R : zDR} {σ : zS2} (h : zPR L b R σ) (hb : b' ≤ b) : zPR L b' R σ := by
  cases R with
  | inl q => exact h
  | inr s => exact zPp.le h hb
set_option maxRecDepth 100000 in
set_option maxHeartbeats 4000000 in
theorem c_X2_passProduct {l : Launch} {Z : zZ} (hZ : zSt l Z) {μ : zMem} {σ : zS2} {π : zP2} {g : zG2} {S : zS2} {L : Nat} (hH : zPh μ π) (hX : zTx S L σ) {p b : Nat} {ks : List Nat} (hP : zPp L p ks b σ) {d : Int32} {K : Nat} {P : Nat → List Nat → zDR} (hPt : zPk l Z μ π g S L mX2_passPart K [.ref 3, .int d] P) : zCt l Z mX2_passProduct (K + 1) 0 0 [.ref 3, .int d] (zA4 μ σ π g) (zPq L b μ σ π g (prR S L P p ks)) := by
  refine zCt_of hZ mpX2_passProduct (Nat.le_of_ble_eq_true rfl) (L := [some (.ref 3), some (.int d), none]) rfl (fun τ hY => ?_)
  have hT := hY.1
  have h30 := hX.2.1
  obtain ⟨h2, h3, h4, h5, h6, h7, h8⟩ := id hP
  obtain ⟨RES, hRES⟩ : ∃ x, x = prR S L P p ks := ⟨_, rfl⟩
  rw [← hRES]
  have loop : ∀ n i, i + n = 30 → ∀ σ1 X, zPf σ σ1 → zPR L b X σ1 → bdR X (prL S L P n) = RES → zJ τ (zFn τ (zPq L b μ σ π g RES) 0 0) 7 [some (.ref 3), some (.int d), some (.int (nI i))] [] (zA4 μ σ1 π g) 0 0 := by
    intro n
    induction n with
    | zero =>
      intro i hi σ1 X hf1 hX1 hb
      have hb2 : X = RES := by
        rw [← hb]
        cases X with
        | inl q => rfl
        | inr s => rfl
      subst hb2
      have hin : i = 30 := by omega
      refine J_iload_n (i := 2) hT dX2_passProduct_7 rfl rfl ?_
      refine J_bipush (v := 30) hT dX2_passProduct_8 rfl ?_
      refine J_icmp_ge (tgt := 65) hT dX2_passProduct_10 (by decide) (fun _ => ?_) (fun q => absurd (nI_le (a := 30) (b := i) (by omega) (by omega)) q)
      exact J_vret hT dX2_passProduct_65 rfl (⟨rfl, _, rfl, hf1, hX1⟩) (Nat.le_refl _) (Nat.le_refl _)
    | succ n ih =>
      intro i hi σ1 X hf1 hX1 hb
      have hi30 := nI_lt (a := i) (b := 30) (by omega) (by decide)
      cases X with
      | inl q =>
        have hb2 : (.inl q : zDR) = RES := hb
        obtain ⟨x1, x2, x3⟩ := hX1
        refine J_iload_n (i := 2) hT dX2_passProduct_7 rfl rfl ?_
        refine J_bipush (v := 30) hT dX2_passProduct_8 rfl ?_
        refine J_icmp_ge (tgt := 65) hT dX2_passProduct_10 (by decide) (fun q => absurd q (Int32.not_le.mpr hi30)) (fun _ => ?_)
        refine J_aload_n (i := 0) hT dX2_passProduct_13 rfl rfl ?_
        refine R_getI hT fX2_25 rfl dX2_passProduct_14 hH.k3 ?_
        refine J_if_ne (tgt := 65) hT dX2_passProduct_17 (by decide) (fun _ => ?_) (fun q => absurd q ((by rw [x3]; decide)))
        exact J_vret hT dX2_passProduct_65 rfl (⟨rfl, _, rfl, hf1, by rw [← hb2]; exact ⟨x1, x2, x3⟩⟩) (Nat.le_refl _) (Nat.le_refl _)
      | inr s =>
        obtain ⟨p1, k1⟩ := s
        have hX1' : zPp L p1 k1 b σ1 := hX1
        obtain ⟨y2, y3, y4, y5, y6, y7, y8⟩ := id hX1'
        have hTx1 := hX.mv hf1
        by_cases hs : ltr S L p1 = 42
        · have hlt := ltr_ne (S := S) (L := L) (p := p1) (by rw [hs]; decide)
          have hgo := hX1'.go hlt
          have hfg := hf1.tr (zPf.u3 σ1 4 (nI (p1 + 1)))
          have hb2 : bdR (P (p1 + 1) k1) (fun q k => prL S L P n q (30004 :: k)) = RES := by
            rw [← hb]; show _ = prL S L P (n + 1) p1 k1; rw [prL, if_pos hs]
          refine J_iload_n (i := 2) hT dX2_passProduct_7 rfl rfl ?_
          refine J_bipush (v := 30) hT dX2_passProduct_8 rfl ?_
          refine J_icmp_ge (tgt := 65) hT dX2_passProduct_10 (by decide) (fun q => absurd q (Int32.not_le.mpr hi30)) (fun _ => ?_)
          refine J_aload_n (i := 0) hT dX2_passProduct_13 rfl rfl ?_
          refine R_getI hT fX2_25 rfl dX2_passProduct_14 hH.k3 ?_
          refine J_if_ne (tgt := 65) hT dX2_passProduct_17 (by decide) (fun q => absurd (y5) q) (fun _ => ?_)
          refine J_aload_n (i := 0) hT dX2_passProduct_20 rfl rfl ?_
          refine R_getP hT fX2_29 rfl dX2_passProduct_21 hH.k3 hH.q30 ?_
          refine J_aload_n (i := 0) hT dX2_passProduct_24 rfl rfl ?_
          refine R_getI hT fX2_22 rfl dX2_passProduct_25 hH.k3 ?_
          refine J_topil (y4) ?_
          refine R_callV1 (ci := 7) hY dX2_passProduct_28 mfX7_letterAt miX7_letterAt msX7_letterAt kX2_62 ⟨by decide, rfl⟩ hH.k1 (c_X7_letterAt hZ hH hTx1 (p := p1) (by omega)) rfl (by omega) rfl rfl (Nat.le_of_ble_eq_true rfl) (Nat.le_refl _) (Nat.le_refl _) ?_
          refine J_bipush (v := 42) hT dX2_passProduct_31 rfl ?_
          refine J_icmp_eq (tgt := 37) hT dX2_passProduct_33 (by decide) (fun _ => ?_) (fun q => absurd (hs) q)
          refine J_aload_n (i := 0) hT dX2_passProduct_37 rfl rfl ?_
          refine J_dup hT dX2_passProduct_38 rfl ?_
          refine R_getI hT fX2_22 rfl dX2_passProduct_39 hH.k3 ?_
          refine J_topil (y4) ?_
          refine J_iconst (v := 1) hT dX2_passProduct_42 rfl ?_
          refine J_iadd hT dX2_passProduct_43 ?_
          refine J_topil ((nI_1 _)) ?_
          refine R_putI hT fX2_22 rfl rfl dX2_passProduct_44 hH.k3 ?_
          refine J_aload_n (i := 0) hT dX2_passProduct_47 rfl rfl ?_
          refine J_iload_n (i := 1) hT dX2_passProduct_48 rfl rfl ?_
          refine J_callV (ci := 2) hY dX2_passProduct_49 mfX2_passPart miX2_passPart msX2_passPart kX2_77 ⟨by decide, rfl⟩ hH.k3 (hPt _ (p1 + 1) (b + 1) k1 (hX.mv hfg) hgo) rfl (by omega) rfl rfl (Nat.le_of_ble_eq_true rfl) (Nat.le_refl _) (Nat.le_refl _) (fun r2 μ2 hq2 => ?_)
          obtain ⟨rfl, σ2, rfl, hf2, hR2⟩ := hq2
          show zJ _ _ _ _ [] _ _ _
          cases hXX : P (p1 + 1) k1 with
          | inl q =>
            rw [hXX] at hR2 hb2
            obtain ⟨z1, z2, z3⟩ := hR2
            refine J_aload_n (i := 0) hT dX2_passProduct_52 rfl rfl ?_
            refine J_bipush (v := 7) hT dX2_passProduct_53 rfl ?_
            refine J_iconst (v := 0) hT dX2_passProduct_55 rfl ?_
            refine R_callV0 (ci := 2) hY dX2_passProduct_56 mfX2_write miX2_write msX2_write kX2_70 ⟨by decide, rfl⟩ hH.k3 (c_X2_writeS hZ hH (hX.mv (hfg.tr hf2)) (by rw [z3]; decide)) rfl (by omega) rfl rfl (Nat.le_of_ble_eq_true rfl) (Nat.le_refl _) (Nat.le_refl _) ?_
            refine S_iinc2 hT dX2_passProduct_59 (nI_inc _) rfl ?_
            refine J_goto (tgt := 7) hT dX2_passProduct_62 (by decide) ?_
            exact ih (i + 1) (by omega) _ (.inl q) (hfg.tr hf2) ⟨z1, z2, z3⟩ hb2
          | inr s =>
            obtain ⟨p2, k2⟩ := s
            rw [hXX] at hR2 hb2
            have hR2' : zPp L p2 k2 (b + 1) σ2 := hR2
            obtain ⟨z2, z3, z4, z5, z6, z7, z8⟩ := id hR2'
            have htok := enc_d 4 (by decide) (by decide)
            have hwr := hR2'.wr (x := 30004) htok.2
            refine J_aload_n (i := 0) hT dX2_passProduct_52 rfl rfl ?_
            refine J_bipush (v := 7) hT dX2_passProduct_53 rfl ?_
            refine J_iconst (v := 0) hT dX2_passProduct_55 rfl ?_
            refine R_callV0 (ci := 2) hY dX2_passProduct_56 mfX2_write miX2_write msX2_write kX2_70 ⟨by decide, rfl⟩ hH.k3 (c_X2_write hZ hH (hX.mv (hfg.tr hf2)) (ks := k2) z2 z5 (by omega)) rfl (by omega) rfl rfl (Nat.le_of_ble_eq_true rfl) (Nat.le_refl _) (Nat.le_refl _) ?_
            refine S_iinc2 hT dX2_passProduct_59 (nI_inc _) rfl ?_
            refine J_goto (tgt := 7) hT dX2_passProduct_62 (by decide) ?_
            refine J_mu (congrArg (fun x => zA4 μ (zu (zu σ2 4 k2.length x) 3 2 (nI (k2.length + 1))) π g) htok.1) ?_
            exact ih (i + 1) (by omega) _ (.inr (p2, 30004 :: k2)) ((hfg.tr hf2).tr ((zPf.u4 _ _ _).tr (zPf.u3 _ _ _))) hwr hb2
        · have hb2 : (.inr (p1, k1) : zDR) = RES := by
            rw [← hb]; show _ = prL S L P (n + 1) p1 k1; rw [prL, if_neg hs]
          refine J_iload_n (i := 2) hT dX2_passProduct_7 rfl rfl ?_
          refine J_bipush (v := 30) hT dX2_passProduct_8 rfl ?_
          refine J_icmp_ge (tgt := 65) hT dX2_passProduct_10 (by decide) (fun q => absurd q (Int32.not_le.mpr hi30)) (fun _ => ?_)
          refine J_aload_n (i := 0) hT dX2_passProduct_13 rfl rfl ?_
          refine R_getI hT fX2_25 rfl dX2_passProduct_14 hH.k3 ?_
          refine J_if_ne (tgt := 65) hT dX2_passProduct_17 (by decide) (fun q => absurd (y5) q) (fun _ => ?_)
          refine J_aload_n (i := 0) hT dX2_passProduct_20 rfl rfl ?_
          refine R_getP hT fX2_29 rfl dX2_passProduct_21 hH.k3 hH.q30 ?_
          refine J_aload_n (i := 0) hT dX2_passProduct_24 rfl rfl ?_
          refine R_getI hT fX2_22 rfl dX2_passProduct_25 hH.k3 ?_
          refine J_topil (y4) ?_
          refine R_callV1 (ci := 7) hY dX2_passProduct_28 mfX7_letterAt miX7_letterAt msX7_letterAt kX2_62 ⟨by decide, rfl⟩ hH.k1 (c_X7_letterAt hZ hH hTx1 (p := p1) (by omega)) rfl (by omega) rfl rfl (Nat.le_of_ble_eq_true rfl) (Nat.le_refl _) (Nat.le_refl _) ?_
          refine J_bipush (v := 42) hT dX2_passProduct_31 rfl ?_
          refine J_icmp_eq (tgt := 37) hT dX2_passProduct_33 (by decide) (fun q => absurd q (hs)) (fun _ => ?_)
          exact J_vret hT dX2_passProduct_36 rfl (⟨rfl, _, rfl, hf1, by rw [← hb2]; exact hX1⟩) (Nat.le_refl _) (Nat.le_refl _)
  refine J_aload_n (i := 0) hT dX2_passProduct_0 rfl rfl ?_
  refine J_iload_n (i := 1) hT dX2_passProduct_1 rfl rfl ?_
  refine J_callV (ci := 2) hY dX2_passProduct_2 mfX2_passPart miX2_passPart msX2_passPart kX2_77 ⟨by decide, rfl⟩ hH.k3 (hPt σ p b ks hX hP) rfl (by omega) rfl rfl (Nat.le_of_ble_eq_true rfl) (Nat.le_refl _) (Nat.le_refl _) (fun r1 μ1 hq1 => ?_)
  obtain ⟨rfl, σ1, rfl, hf1, hR1⟩ := hq1
  show zJ _ _ _ _ [] _ _ _
  refine J_iconst (v := 0) hT dX2_passProduct_5 rfl ?_
  refine S_istore2 hT dX2_passProduct_6 rfl rfl ?_
  exact loop 30 0 rfl _ _ hf1 hR1 hRES.symm

set_option maxRecDepth 100000 in
set_option maxHeartbeats 4000000 in
theorem c_X2_passSum {l : Launch} {Z : zZ} (hZ : zSt l Z) {μ : zMem} {σ : zS2} {π : zP2} {g : zG2} {S : zS2} {L : Nat} (hH : zPh μ π) (hX : zTx S L σ) {p b : Nat} {ks : List Nat} (hP : zPp L p ks b σ) {d : Int32} {K : Nat} {P : Nat → List Nat → zDR} (hPt : zPk l Z μ π g S L mX2_passProduct K [.ref 3, .int d] P) : zCt l Z mX2_passSum (K + 1) 0 0 [.ref 3, .int d] (zA4 μ σ π g) (zPq L b μ σ π g (smR S L P p ks)) := by
  refine zCt_of hZ mpX2_passSum (Nat.le_of_ble_eq_true rfl) (L := [some (.ref 3), some (.int d), none, none]) rfl (fun τ hY => ?_)
  have hT := hY.1
  have h30 := hX.2.1
  obtain ⟨h2, h3, h4, h5, h6, h7, h8⟩ := id hP
  obtain ⟨RES, hRES⟩ : ∃ x, x = smR S L P p ks := ⟨_, rfl⟩
  rw [← hRES]
  have loop : ∀ n i, i + n = 30 → ∀ σ1 X, zPf σ σ1 → zPR L b X σ1 → bdR X (smL S L P n) = RES → zJ τ (zFn τ (zPq L b μ σ π g RES) 0 0) 7 [some (.ref 3), some (.int d), some (.int (nI i)), none] [] (zA4 μ σ1 π g) 0 0 := by
    intro n
    induction n with
    | zero =>
      intro i hi σ1 X hf1 hX1 hb
      have hb2 : X = RES := by
        rw [← hb]
        cases X with
        | inl q => rfl
        | inr s => rfl
      subst hb2
      have hin : i = 30 := by omega
      refine J_iload_n (i := 2) hT dX2_passSum_7 rfl rfl ?_
      refine J_bipush (v := 30) hT dX2_passSum_8 rfl ?_
      refine J_icmp_ge (tgt := 83) hT dX2_passSum_10 (by decide) (fun _ => ?_) (fun q => absurd (nI_le (a := 30) (b := i) (by omega) (by omega)) q)
      exact J_vret hT dX2_passSum_83 rfl (⟨rfl, _, rfl, hf1, hX1⟩) (Nat.le_refl _) (Nat.le_refl _)
    | succ n ih =>
      intro i hi σ1 X hf1 hX1 hb
      have hi30 := nI_lt (a := i) (b := 30) (by omega) (by decide)
      cases X with
      | inl q =>
        have hb2 : (.inl q : zDR) = RES := hb
        obtain ⟨x1, x2, x3⟩ := hX1
        refine J_iload_n (i := 2) hT dX2_passSum_7 rfl rfl ?_
        refine J_bipush (v := 30) hT dX2_passSum_8 rfl ?_
        refine J_icmp_ge (tgt := 83) hT dX2_passSum_10 (by decide) (fun q => absurd q (Int32.not_le.mpr hi30)) (fun _ => ?_)
        refine J_aload_n (i := 0) hT dX2_passSum_13 rfl rfl ?_
        refine R_getI hT fX2_25 rfl dX2_passSum_14 hH.k3 ?_
        refine J_if_ne (tgt := 83) hT dX2_passSum_17 (by decide) (fun _ => ?_) (fun q => absurd q ((by rw [x3]; decide)))
        exact J_vret hT dX2_passSum_83 rfl (⟨rfl, _, rfl, hf1, by rw [← hb2]; exact ⟨x1, x2, x3⟩⟩) (Nat.le_refl _) (Nat.le_refl _)
      | inr s =>
        obtain ⟨p1, k1⟩ := s
        have hX1' : zPp L p1 k1 b σ1 := hX1
        obtain ⟨y2, y3, y4, y5, y6, y7, y8⟩ := id hX1'
        have hTx1 := hX.mv hf1
        by_cases hs43 : ltr S L p1 = 43
        · have hs := hs43
          have hlt := ltr_ne (S := S) (L := L) (p := p1) (by rw [hs]; decide)
          have hgo := hX1'.go hlt
          have hfg := hf1.tr (zPf.u3 σ1 4 (nI (p1 + 1)))
          have hb2 : bdR (P (p1 + 1) k1) (fun q k => smL S L P n q (30002 :: k)) = RES := by
            rw [← hb]; show _ = smL S L P (n + 1) p1 k1; rw [smL, if_pos hs]
          refine J_iload_n (i := 2) hT dX2_passSum_7 rfl rfl ?_
          refine J_bipush (v := 30) hT dX2_passSum_8 rfl ?_
          refine J_icmp_ge (tgt := 83) hT dX2_passSum_10 (by decide) (fun q => absurd q (Int32.not_le.mpr hi30)) (fun _ => ?_)
          refine J_aload_n (i := 0) hT dX2_passSum_13 rfl rfl ?_
          refine R_getI hT fX2_25 rfl dX2_passSum_14 hH.k3 ?_
          refine J_if_ne (tgt := 83) hT dX2_passSum_17 (by decide) (fun q => absurd (y5) q) (fun _ => ?_)
          refine J_aload_n (i := 0) hT dX2_passSum_20 rfl rfl ?_
          refine R_getP hT fX2_29 rfl dX2_passSum_21 hH.k3 hH.q30 ?_
          refine J_aload_n (i := 0) hT dX2_passSum_24 rfl rfl ?_
          refine R_getI hT fX2_22 rfl dX2_passSum_25 hH.k3 ?_
          refine J_topil (y4) ?_
          refine R_callV1 (ci := 7) hY dX2_passSum_28 mfX7_letterAt miX7_letterAt msX7_letterAt kX2_62 ⟨by decide, rfl⟩ hH.k1 (c_X7_letterAt hZ hH hTx1 (p := p1) (by omega)) rfl (by omega) rfl rfl (Nat.le_of_ble_eq_true rfl) (Nat.le_refl _) (Nat.le_refl _) ?_
          refine S_istore3 hT dX2_passSum_31 rfl rfl ?_
          refine J_iload_n (i := 3) hT dX2_passSum_32 rfl rfl ?_
          refine J_bipush (v := 43) hT dX2_passSum_33 rfl ?_
          refine J_icmp_eq (tgt := 45) hT dX2_passSum_35 (by decide) (fun _ => ?_) (fun q => absurd (hs) q)
          refine J_aload_n (i := 0) hT dX2_passSum_45 rfl rfl ?_
          refine J_dup hT dX2_passSum_46 rfl ?_
          refine R_getI hT fX2_22 rfl dX2_passSum_47 hH.k3 ?_
          refine J_topil (y4) ?_
          refine J_iconst (v := 1) hT dX2_passSum_50 rfl ?_
          refine J_iadd hT dX2_passSum_51 ?_
          refine J_topil ((nI_1 _)) ?_
          refine R_putI hT fX2_22 rfl rfl dX2_passSum_52 hH.k3 ?_
          refine J_aload_n (i := 0) hT dX2_passSum_55 rfl rfl ?_
          refine J_iload_n (i := 1) hT dX2_passSum_56 rfl rfl ?_
          refine J_callV (ci := 2) hY dX2_passSum_57 mfX2_passProduct miX2_passProduct msX2_passProduct kX2_74 ⟨by decide, rfl⟩ hH.k3 (hPt _ (p1 + 1) (b + 1) k1 (hX.mv hfg) hgo) rfl (by omega) rfl rfl (Nat.le_of_ble_eq_true rfl) (Nat.le_refl _) (Nat.le_refl _) (fun r2 μ2 hq2 => ?_)
          obtain ⟨rfl, σ2, rfl, hf2, hR2⟩ := hq2
          show zJ _ _ _ _ [] _ _ _
          cases hXX : P (p1 + 1) k1 with
          | inl q =>
            rw [hXX] at hR2 hb2
            obtain ⟨z1, z2, z3⟩ := hR2
            refine J_aload_n (i := 0) hT dX2_passSum_60 rfl rfl ?_
            refine J_iload_n (i := 3) hT dX2_passSum_61 rfl rfl ?_
            refine J_bipush (v := 43) hT dX2_passSum_62 rfl ?_
            refine J_icmp_ne (tgt := 71) hT dX2_passSum_64 (by decide) (fun q => absurd (hs) q) (fun _ => ?_)
            refine J_iconst (v := 5) hT dX2_passSum_67 rfl ?_
            refine J_goto (tgt := 73) hT dX2_passSum_68 (by decide) ?_
            refine J_iconst (v := 0) hT dX2_passSum_73 rfl ?_
            refine R_callV0 (ci := 2) hY dX2_passSum_74 mfX2_write miX2_write msX2_write kX2_70 ⟨by decide, rfl⟩ hH.k3 (c_X2_writeS hZ hH (hX.mv (hfg.tr hf2)) (by rw [z3]; decide)) rfl (by omega) rfl rfl (Nat.le_of_ble_eq_true rfl) (Nat.le_refl _) (Nat.le_refl _) ?_
            refine S_iinc2 hT dX2_passSum_77 (nI_inc _) rfl ?_
            refine J_goto (tgt := 7) hT dX2_passSum_80 (by decide) ?_
            refine J_L (L' := [_, _, _, none]) (zsub_keep (zsub_keep (zsub_keep (zsub_drop zsub_nil)))) ?_
            exact ih (i + 1) (by omega) _ (.inl q) (hfg.tr hf2) ⟨z1, z2, z3⟩ hb2
          | inr s =>
            obtain ⟨p2, k2⟩ := s
            rw [hXX] at hR2 hb2
            have hR2' : zPp L p2 k2 (b + 1) σ2 := hR2
            obtain ⟨z2, z3, z4, z5, z6, z7, z8⟩ := id hR2'
            have htok := enc_d 2 (by decide) (by decide)
            have hwr := hR2'.wr (x := 30002) htok.2
            refine J_aload_n (i := 0) hT dX2_passSum_60 rfl rfl ?_
            refine J_iload_n (i := 3) hT dX2_passSum_61 rfl rfl ?_
            refine J_bipush (v := 43) hT dX2_passSum_62 rfl ?_
            refine J_icmp_ne (tgt := 71) hT dX2_passSum_64 (by decide) (fun q => absurd (hs) q) (fun _ => ?_)
            refine J_iconst (v := 5) hT dX2_passSum_67 rfl ?_
            refine J_goto (tgt := 73) hT dX2_passSum_68 (by decide) ?_
            refine J_iconst (v := 0) hT dX2_passSum_73 rfl ?_
            refine R_callV0 (ci := 2) hY dX2_passSum_74 mfX2_write miX2_write msX2_write kX2_70 ⟨by decide, rfl⟩ hH.k3 (c_X2_write hZ hH (hX.mv (hfg.tr hf2)) (ks := k2) z2 z5 (by omega)) rfl (by omega) rfl rfl (Nat.le_of_ble_eq_true rfl) (Nat.le_refl _) (Nat.le_refl _) ?_
            refine S_iinc2 hT dX2_passSum_77 (nI_inc _) rfl ?_
            refine J_goto (tgt := 7) hT dX2_passSum_80 (by decide) ?_
            refine J_L (L' := [_, _, _, none]) (zsub_keep (zsub_keep (zsub_keep (zsub_drop zsub_nil)))) ?_
            refine J_mu (congrArg (fun x => zA4 μ (zu (zu σ2 4 k2.length x) 3 2 (nI (k2.length + 1))) π g) htok.1) ?_
            exact ih (i + 1) (by omega) _ (.inr (p2, 30002 :: k2)) ((hfg.tr hf2).tr ((zPf.u4 _ _ _).tr (zPf.u3 _ _ _))) hwr hb2
        · by_cases hs : ltr S L p1 = 45
          · have hlt := ltr_ne (S := S) (L := L) (p := p1) (by rw [hs]; decide)
            have hgo := hX1'.go hlt
            have hfg := hf1.tr (zPf.u3 σ1 4 (nI (p1 + 1)))
            have hb2 : bdR (P (p1 + 1) k1) (fun q k => smL S L P n q (30003 :: k)) = RES := by
              rw [← hb]; show _ = smL S L P (n + 1) p1 k1; rw [smL, if_neg hs43, if_pos hs]
            refine J_iload_n (i := 2) hT dX2_passSum_7 rfl rfl ?_
            refine J_bipush (v := 30) hT dX2_passSum_8 rfl ?_
            refine J_icmp_ge (tgt := 83) hT dX2_passSum_10 (by decide) (fun q => absurd q (Int32.not_le.mpr hi30)) (fun _ => ?_)
            refine J_aload_n (i := 0) hT dX2_passSum_13 rfl rfl ?_
            refine R_getI hT fX2_25 rfl dX2_passSum_14 hH.k3 ?_
            refine J_if_ne (tgt := 83) hT dX2_passSum_17 (by decide) (fun q => absurd (y5) q) (fun _ => ?_)
            refine J_aload_n (i := 0) hT dX2_passSum_20 rfl rfl ?_
            refine R_getP hT fX2_29 rfl dX2_passSum_21 hH.k3 hH.q30 ?_
            refine J_aload_n (i := 0) hT dX2_passSum_24 rfl rfl ?_
            refine R_getI hT fX2_22 rfl dX2_passSum_25 hH.k3 ?_
            refine J_topil (y4) ?_
            refine R_callV1 (ci := 7) hY dX2_passSum_28 mfX7_letterAt miX7_letterAt msX7_letterAt kX2_62 ⟨by decide, rfl⟩ hH.k1 (c_X7_letterAt hZ hH hTx1 (p := p1) (by omega)) rfl (by omega) rfl rfl (Nat.le_of_ble_eq_true rfl) (Nat.le_refl _) (Nat.le_refl _) ?_
            refine S_istore3 hT dX2_passSum_31 rfl rfl ?_
            refine J_iload_n (i := 3) hT dX2_passSum_32 rfl rfl ?_
            refine J_bipush (v := 43) hT dX2_passSum_33 rfl ?_
            refine J_icmp_eq (tgt := 45) hT dX2_passSum_35 (by decide) (fun q => absurd q (hs43)) (fun _ => ?_)
            refine J_iload_n (i := 3) hT dX2_passSum_38 rfl rfl ?_
            refine J_bipush (v := 45) hT dX2_passSum_39 rfl ?_
            refine J_icmp_eq (tgt := 45) hT dX2_passSum_41 (by decide) (fun _ => ?_) (fun q => absurd (hs) q)
            refine J_aload_n (i := 0) hT dX2_passSum_45 rfl rfl ?_
            refine J_dup hT dX2_passSum_46 rfl ?_
            refine R_getI hT fX2_22 rfl dX2_passSum_47 hH.k3 ?_
            refine J_topil (y4) ?_
            refine J_iconst (v := 1) hT dX2_passSum_50 rfl ?_
            refine J_iadd hT dX2_passSum_51 ?_
            refine J_topil ((nI_1 _)) ?_
            refine R_putI hT fX2_22 rfl rfl dX2_passSum_52 hH.k3 ?_
            refine J_aload_n (i := 0) hT dX2_passSum_55 rfl rfl ?_
            refine J_iload_n (i := 1) hT dX2_passSum_56 rfl rfl ?_
            refine J_callV (ci := 2) hY dX2_passSum_57 mfX2_passProduct miX2_passProduct msX2_passProduct kX2_74 ⟨by decide, rfl⟩ hH.k3 (hPt _ (p1 + 1) (b + 1) k1 (hX.mv hfg) hgo) rfl (by omega) rfl rfl (Nat.le_of_ble_eq_true rfl) (Nat.le_refl _) (Nat.le_refl _) (fun r2 μ2 hq2 => ?_)
            obtain ⟨rfl, σ2, rfl, hf2, hR2⟩ := hq2
            show zJ _ _ _ _ [] _ _ _
            cases hXX : P (p1 + 1) k1 with
            | inl q =>
              rw [hXX] at hR2 hb2
              obtain ⟨z1, z2, z3⟩ := hR2
              refine J_aload_n (i := 0) hT dX2_passSum_60 rfl rfl ?_
              refine J_iload_n (i := 3) hT dX2_passSum_61 rfl rfl ?_
              refine J_bipush (v := 43) hT dX2_passSum_62 rfl ?_
              refine J_icmp_ne (tgt := 71) hT dX2_passSum_64 (by decide) (fun _ => ?_) (fun q => absurd q (hs43))
              refine J_bipush (v := 6) hT dX2_passSum_71 rfl ?_
              refine J_iconst (v := 0) hT dX2_passSum_73 rfl ?_
              refine R_callV0 (ci := 2) hY dX2_passSum_74 mfX2_write miX2_write msX2_write kX2_70 ⟨by decide, rfl⟩ hH.k3 (c_X2_writeS hZ hH (hX.mv (hfg.tr hf2)) (by rw [z3]; decide)) rfl (by omega) rfl rfl (Nat.le_of_ble_eq_true rfl) (Nat.le_refl _) (Nat.le_refl _) ?_
              refine S_iinc2 hT dX2_passSum_77 (nI_inc _) rfl ?_
              refine J_goto (tgt := 7) hT dX2_passSum_80 (by decide) ?_
              refine J_L (L' := [_, _, _, none]) (zsub_keep (zsub_keep (zsub_keep (zsub_drop zsub_nil)))) ?_
              exact ih (i + 1) (by omega) _ (.inl q) (hfg.tr hf2) ⟨z1, z2, z3⟩ hb2
            | inr s =>
              obtain ⟨p2, k2⟩ := s
              rw [hXX] at hR2 hb2
              have hR2' : zPp L p2 k2 (b + 1) σ2 := hR2
              obtain ⟨z2, z3, z4, z5, z6, z7, z8⟩ := id hR2'
              have htok := enc_d 3 (by decide) (by decide)
              have hwr := hR2'.wr (x := 30003) htok.2
              refine J_aload_n (i := 0) hT dX2_passSum_60 rfl rfl ?_
              refine J_iload_n (i := 3) hT dX2_passSum_61 rfl rfl ?_
              refine J_bipush (v := 43) hT dX2_passSum_62 rfl ?_
              refine J_icmp_ne (tgt := 71) hT dX2_passSum_64 (by decide) (fun _ => ?_) (fun q => absurd q (hs43))
              refine J_bipush (v := 6) hT dX2_passSum_71 rfl ?_
              refine J_iconst (v := 0) hT dX2_passSum_73 rfl ?_
              refine R_callV0 (ci := 2) hY dX2_passSum_74 mfX2_write miX2_write msX2_write kX2_70 ⟨by decide, rfl⟩ hH.k3 (c_X2_write hZ hH (hX.mv (hfg.tr hf2)) (ks := k2) z2 z5 (by omega)) rfl (by omega) rfl rfl (Nat.le_of_ble_eq_true rfl) (Nat.le_refl _) (Nat.le_refl _) ?_
              refine S_iinc2 hT dX2_passSum_77 (nI_inc _) rfl ?_
              refine J_goto (tgt := 7) hT dX2_passSum_80 (by decide) ?_
              refine J_L (L' := [_, _, _, none]) (zsub_keep (zsub_keep (zsub_keep (zsub_drop zsub_nil)))) ?_
              refine J_mu (congrArg (fun x => zA4 μ (zu (zu σ2 4 k2.length x) 3 2 (nI (k2.length + 1))) π g) htok.1) ?_
              exact ih (i + 1) (by omega) _ (.inr (p2, 30003 :: k2)) ((hfg.tr hf2).tr ((zPf.u4 _ _ _).tr (zPf.u3 _ _ _))) hwr hb2
          · have hb2 : (.inr (p1, k1) : zDR) = RES := by
              rw [← hb]; show _ = smL S L P (n + 1) p1 k1; rw [smL, if_neg hs43, if_neg hs]
            refine J_iload_n (i := 2) hT dX2_passSum_7 rfl rfl ?_
            refine J_bipush (v := 30) hT dX2_passSum_8 rfl ?_
            refine J_icmp_ge (tgt := 83) hT dX2_passSum_10 (by decide) (fun q => absurd q (Int32.not_le.mpr hi30)) (fun _ => ?_)
            refine J_aload_n (i := 0) hT dX2_passSum_13 rfl rfl ?_
            refine R_getI hT fX2_25 rfl dX2_passSum_14 hH.k3 ?_
            refine J_if_ne (tgt := 83) hT dX2_passSum_17 (by decide) (fun q => absurd (y5) q) (fun _ => ?_)
            refine J_aload_n (i := 0) hT dX2_passSum_20 rfl rfl ?_
            refine R_getP hT fX2_29 rfl dX2_passSum_21 hH.k3 hH.q30 ?_
            refine J_aload_n (i := 0) hT dX2_passSum_24 rfl rfl ?_
            refine R_getI hT fX2_22 rfl dX2_passSum_25 hH.k3 ?_
            refine J_topil (y4) ?_
            refine R_callV1 (ci := 7) hY dX2_passSum_28 mfX7_letterAt miX7_letterAt msX7_letterAt kX2_62 ⟨by decide, rfl⟩ hH.k1 (c_X7_letterAt hZ hH hTx1 (p := p1) (by omega)) rfl (by omega) rfl rfl (Nat.le_of_ble_eq_true rfl) (Nat.le_refl _) (Nat.le_refl _) ?_
            refine S_istore3 hT dX2_passSum_31 rfl rfl ?_
            refine J_iload_n (i := 3) hT dX2_passSum_32 rfl rfl ?_
            refine J_bipush (v := 43) hT dX2_passSum_33 rfl ?_
            refine J_icmp_eq (tgt := 45) hT dX2_passSum_35 (by decide) (fun q => absurd q (hs43)) (fun _ => ?_)
            refine J_iload_n (i := 3) hT dX2_passSum_38 rfl rfl ?_
            refine J_bipush (v := 45) hT dX2_passSum_39 rfl ?_
            refine J_icmp_eq (tgt := 45) hT dX2_passSum_41 (by decide) (fun q => absurd q (hs)) (fun _ => ?_)
            exact J_vret hT dX2_passSum_44 rfl (⟨rfl, _, rfl, hf1, by rw [← hb2]; exact hX1⟩) (Nat.le_refl _) (Nat.le_refl _)
  refine J_aload_n (i := 0) hT dX2_passSum_0 rfl rfl ?_
  refine J_iload_n (i := 1) hT dX2_passSum_1 rfl rfl ?_
  refine J_callV (ci := 2) hY dX2_passSum_2 mfX2_passProduct miX2_passProduct msX2_passProduct kX2_74 ⟨by decide, rfl⟩ hH.k3 (hPt σ p b ks hX hP) rfl (by omega) rfl rfl (Nat.le_of_ble_eq_true rfl) (Nat.le_refl _) (Nat.le_refl _) (fun r1 μ1 hq1 => ?_)
  obtain ⟨rfl, σ1, rfl, hf1, hR1⟩ := hq1
  show zJ _ _ _ _ [] _ _ _
  refine J_iconst (v := 0) hT dX2_passSum_5 rfl ?_
  refine S_istore2 hT dX2_passSum_6 rfl rfl ?_
  exact loop 30 0 rfl _ _ hf1 hR1 hRES.symm


