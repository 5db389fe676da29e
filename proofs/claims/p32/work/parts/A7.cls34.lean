theorem nI_pr {n : Nat} (h : 1 ≤ n) : nI n - 1 = nI (n - 1) := nI_sub (a := n) (b := 1) h
set_option maxRecDepth 100000 in
set_option maxHeartbeats 4000000 in
theorem c_X2_passFormula {l : Launch} {Z : zZ} (hZ : zSt l Z) {μ : zMem} {σ : zS2} {π : zP2} {g : zG2} {S : zS2} {L : Nat} (hH : zPh μ π) (hX : zTx S L σ) {p b : Nat} {ks : List Nat} (hP : zPp L p ks b σ) {d : Int32} {K : Nat} {P : Nat → List Nat → zDR} (hPt : zPk l Z μ π g S L mX2_passSum K [.ref 3, .int d] P) : zCt l Z mX2_passFormula (K + 1) 0 0 [.ref 3, .int d] (zA4 μ σ π g) (zPq L b μ σ π g (foR S L P p ks)) := by
  refine zCt_of hZ mpX2_passFormula (Nat.le_of_ble_eq_true rfl) (L := [some (.ref 3), some (.int d), none]) rfl (fun τ hY => ?_)
  have hT := hY.1
  have h30 := hX.2.1
  obtain ⟨h2, h3, h4, h5, h6, h7, h8⟩ := id hP
  obtain ⟨RES, hRES⟩ : ∃ x, x = foR S L P p ks := ⟨_, rfl⟩
  rw [← hRES]
  have hRES0 := hRES
  unfold foR at hRES
  refine J_aload_n (i := 0) hT dX2_passFormula_0 rfl rfl ?_
  refine J_iload_n (i := 1) hT dX2_passFormula_1 rfl rfl ?_
  refine J_callV (ci := 2) hY dX2_passFormula_2 mfX2_passSum miX2_passSum msX2_passSum kX2_59 ⟨by decide, rfl⟩ hH.k3 (hPt σ p b ks hX hP) rfl (by omega) rfl rfl (Nat.le_of_ble_eq_true rfl) (Nat.le_refl _) (Nat.le_refl _) (fun r1 μ1 hq1 => ?_)
  obtain ⟨rfl, σ1, rfl, hf1, hR1⟩ := hq1
  show zJ _ _ _ _ [] _ _ _
  have hTx1 := hX.mv hf1
  cases hXX : P p ks with
  | inl q =>
    rw [hXX] at hR1 hRES
    have hb2 : RES = .inl q := hRES
    obtain ⟨z1, z2, z3⟩ := hR1
    refine J_aload_n (i := 0) hT dX2_passFormula_5 rfl rfl ?_
    refine R_getP hT fX2_29 rfl dX2_passFormula_6 hH.k3 hH.q30 ?_
    refine J_aload_n (i := 0) hT dX2_passFormula_9 rfl rfl ?_
    refine R_getI hT fX2_22 rfl dX2_passFormula_10 hH.k3 ?_
    refine J_topil (z2) ?_
    refine R_callV1 (ci := 7) hY dX2_passFormula_13 mfX7_letterAt miX7_letterAt msX7_letterAt kX2_62 ⟨by decide, rfl⟩ hH.k1 (c_X7_letterAt hZ hH hTx1 (p := q) (by omega)) rfl (by omega) rfl rfl (Nat.le_of_ble_eq_true rfl) (Nat.le_refl _) (Nat.le_refl _) ?_
    refine R_callS1 hY dX2_passFormula_16 mfX2_comparisonOf mtX2_comparisonOf kX2_66 (c_X2_comparisonOf hZ) rfl (by omega) rfl rfl (Nat.le_of_ble_eq_true rfl) (Nat.le_refl _) (Nat.le_refl _) ?_
    refine S_istore2 hT dX2_passFormula_19 rfl rfl ?_
    refine J_aload_n (i := 0) hT dX2_passFormula_20 rfl rfl ?_
    refine R_getI hT fX2_25 rfl dX2_passFormula_21 hH.k3 ?_
    refine J_if_ne (tgt := 32) hT dX2_passFormula_24 (by decide) (fun _ => ?_) (fun q => absurd q ((by rw [z3]; decide)))
    exact J_vret hT dX2_passFormula_32 rfl (⟨rfl, _, rfl, hf1, by rw [hb2]; exact ⟨z1, z2, z3⟩⟩) (Nat.le_refl _) (Nat.le_refl _)
  | inr s =>
    obtain ⟨p1, k1⟩ := s
    rw [hXX] at hR1 hRES
    have hX1' : zPp L p1 k1 b σ1 := hR1
    obtain ⟨y2, y3, y4, y5, y6, y7, y8⟩ := id hX1'
    by_cases hc : cmpO (ltr S L p1) = -1
    · have hb2 : RES = .inr (p1, k1) := by rw [hRES]; show (if _ then _ else _) = _; rw [if_pos hc]
      refine J_aload_n (i := 0) hT dX2_passFormula_5 rfl rfl ?_
      refine R_getP hT fX2_29 rfl dX2_passFormula_6 hH.k3 hH.q30 ?_
      refine J_aload_n (i := 0) hT dX2_passFormula_9 rfl rfl ?_
      refine R_getI hT fX2_22 rfl dX2_passFormula_10 hH.k3 ?_
      refine J_topil (y4) ?_
      refine R_callV1 (ci := 7) hY dX2_passFormula_13 mfX7_letterAt miX7_letterAt msX7_letterAt kX2_62 ⟨by decide, rfl⟩ hH.k1 (c_X7_letterAt hZ hH hTx1 (p := p1) (by omega)) rfl (by omega) rfl rfl (Nat.le_of_ble_eq_true rfl) (Nat.le_refl _) (Nat.le_refl _) ?_
      refine R_callS1 hY dX2_passFormula_16 mfX2_comparisonOf mtX2_comparisonOf kX2_66 (c_X2_comparisonOf hZ) rfl (by omega) rfl rfl (Nat.le_of_ble_eq_true rfl) (Nat.le_refl _) (Nat.le_refl _) ?_
      refine S_istore2 hT dX2_passFormula_19 rfl rfl ?_
      refine J_aload_n (i := 0) hT dX2_passFormula_20 rfl rfl ?_
      refine R_getI hT fX2_25 rfl dX2_passFormula_21 hH.k3 ?_
      refine J_if_ne (tgt := 32) hT dX2_passFormula_24 (by decide) (fun q => absurd (y5) q) (fun _ => ?_)
      refine J_iload_n (i := 2) hT dX2_passFormula_27 rfl rfl ?_
      refine J_iconst (v := -1) hT dX2_passFormula_28 rfl ?_
      refine J_icmp_ne (tgt := 33) hT dX2_passFormula_29 (by decide) (fun q => absurd (hc) q) (fun _ => ?_)
      exact J_vret hT dX2_passFormula_32 rfl (⟨rfl, _, rfl, hf1, by rw [hb2]; exact hX1'⟩) (Nat.le_refl _) (Nat.le_refl _)
    · have hb2 : RES = bdR (P (p1 + 1) k1) (fun q2 k2 => .inr (q2, (30000 + cmD (ltr S L p1)) :: k2)) := by rw [hRES]; show (if _ then _ else _) = _; rw [if_neg hc]
      obtain ⟨hc1, hc2, hc3, hc4⟩ := cmpO_D hc
      have hlt := ltr_ne hc2
      have hgo := hX1'.go hlt
      have hfg := hf1.tr (zPf.u3 σ1 4 (nI (p1 + 1)))
      refine J_aload_n (i := 0) hT dX2_passFormula_5 rfl rfl ?_
      refine R_getP hT fX2_29 rfl dX2_passFormula_6 hH.k3 hH.q30 ?_
      refine J_aload_n (i := 0) hT dX2_passFormula_9 rfl rfl ?_
      refine R_getI hT fX2_22 rfl dX2_passFormula_10 hH.k3 ?_
      refine J_topil (y4) ?_
      refine R_callV1 (ci := 7) hY dX2_passFormula_13 mfX7_letterAt miX7_letterAt msX7_letterAt kX2_62 ⟨by decide, rfl⟩ hH.k1 (c_X7_letterAt hZ hH hTx1 (p := p1) (by omega)) rfl (by omega) rfl rfl (Nat.le_of_ble_eq_true rfl) (Nat.le_refl _) (Nat.le_refl _) ?_
      refine R_callS1 hY dX2_passFormula_16 mfX2_comparisonOf mtX2_comparisonOf kX2_66 (c_X2_comparisonOf hZ) rfl (by omega) rfl rfl (Nat.le_of_ble_eq_true rfl) (Nat.le_refl _) (Nat.le_refl _) ?_
      refine S_istore2 hT dX2_passFormula_19 rfl rfl ?_
      refine J_aload_n (i := 0) hT dX2_passFormula_20 rfl rfl ?_
      refine R_getI hT fX2_25 rfl dX2_passFormula_21 hH.k3 ?_
      refine J_if_ne (tgt := 32) hT dX2_passFormula_24 (by decide) (fun q => absurd (y5) q) (fun _ => ?_)
      refine J_iload_n (i := 2) hT dX2_passFormula_27 rfl rfl ?_
      refine J_iconst (v := -1) hT dX2_passFormula_28 rfl ?_
      refine J_icmp_ne (tgt := 33) hT dX2_passFormula_29 (by decide) (fun _ => ?_) (fun q => absurd q (hc))
      refine J_aload_n (i := 0) hT dX2_passFormula_33 rfl rfl ?_
      refine J_dup hT dX2_passFormula_34 rfl ?_
      refine R_getI hT fX2_22 rfl dX2_passFormula_35 hH.k3 ?_
      refine J_topil (y4) ?_
      refine J_iconst (v := 1) hT dX2_passFormula_38 rfl ?_
      refine J_iadd hT dX2_passFormula_39 ?_
      refine J_topil ((nI_1 _)) ?_
      refine R_putI hT fX2_22 rfl rfl dX2_passFormula_40 hH.k3 ?_
      refine J_aload_n (i := 0) hT dX2_passFormula_43 rfl rfl ?_
      refine J_iload_n (i := 1) hT dX2_passFormula_44 rfl rfl ?_
      refine J_callV (ci := 2) hY dX2_passFormula_45 mfX2_passSum miX2_passSum msX2_passSum kX2_59 ⟨by decide, rfl⟩ hH.k3 (hPt _ (p1 + 1) (b + 1) k1 (hX.mv hfg) hgo) rfl (by omega) rfl rfl (Nat.le_of_ble_eq_true rfl) (Nat.le_refl _) (Nat.le_refl _) (fun r2 μ2 hq2 => ?_)
      obtain ⟨rfl, σ2, rfl, hf2, hR2⟩ := hq2
      show zJ _ _ _ _ [] _ _ _
      cases hXX2 : P (p1 + 1) k1 with
      | inl q =>
        rw [hXX2] at hR2 hb2
        have hb3 : RES = .inl q := hb2
        obtain ⟨z1, z2, z3⟩ := hR2
        refine J_aload_n (i := 0) hT dX2_passFormula_48 rfl rfl ?_
        refine J_iload_n (i := 2) hT dX2_passFormula_49 rfl rfl ?_
        refine J_iconst (v := 0) hT dX2_passFormula_50 rfl ?_
        refine R_callV0 (ci := 2) hY dX2_passFormula_51 mfX2_write miX2_write msX2_write kX2_70 ⟨by decide, rfl⟩ hH.k3 (c_X2_writeS hZ hH (hX.mv (hfg.tr hf2)) (by rw [z3]; decide)) rfl (by omega) rfl rfl (Nat.le_of_ble_eq_true rfl) (Nat.le_refl _) (Nat.le_refl _) ?_
        exact J_vret hT dX2_passFormula_54 rfl (⟨rfl, _, rfl, hfg.tr hf2, by rw [hb3]; exact ⟨z1, z2, z3⟩⟩) (Nat.le_refl _) (Nat.le_refl _)
      | inr s =>
        obtain ⟨p2, k2⟩ := s
        rw [hXX2] at hR2 hb2
        have hb3 : RES = .inr (p2, (30000 + cmD (ltr S L p1)) :: k2) := hb2
        have hR2' : zPp L p2 k2 (b + 1) σ2 := hR2
        obtain ⟨z2, z3, z4, z5, z6, z7, z8⟩ := id hR2'
        have htok := enc_d (cmD (ltr S L p1)) hc4 hc3
        have hwr := hR2'.wr (x := 30000 + cmD (ltr S L p1)) htok.2
        refine J_aload_n (i := 0) hT dX2_passFormula_48 rfl rfl ?_
        refine J_iload_n (i := 2) hT dX2_passFormula_49 rfl rfl ?_
        refine J_iconst (v := 0) hT dX2_passFormula_50 rfl ?_
        refine R_callV0 (ci := 2) hY dX2_passFormula_51 mfX2_write miX2_write msX2_write kX2_70 ⟨by decide, rfl⟩ hH.k3 (c_X2_write hZ hH (hX.mv (hfg.tr hf2)) (ks := k2) z2 z5 (by omega)) rfl (by omega) rfl rfl (Nat.le_of_ble_eq_true rfl) (Nat.le_refl _) (Nat.le_refl _) ?_
        refine J_mu (congrArg (fun x => zA4 μ (zu (zu σ2 4 k2.length x) 3 2 (nI (k2.length + 1))) π g) ((congrArg (fun y => (0 : Int32) <<< ((4 : Int32) &&& 31) ||| y) hc1).trans htok.1)) ?_
        exact J_vret hT dX2_passFormula_54 rfl (⟨rfl, _, rfl, (hfg.tr hf2).tr ((zPf.u4 _ _ _).tr (zPf.u3 _ _ _)), by rw [hb3]; exact hwr⟩) (Nat.le_refl _) (Nat.le_refl _)

set_option maxRecDepth 100000 in
set_option maxHeartbeats 4000000 in
theorem c_X2_passBrackets {l : Launch} {Z : zZ} (hZ : zSt l Z) {μ : zMem} {σ : zS2} {π : zP2} {g : zG2} {S : zS2} {L : Nat} (hH : zPh μ π) (hX : zTx S L σ) {p b : Nat} {ks : List Nat} (hP : zPp L p ks b σ) {d d' : Int32} (hd : d + 1 = d') {N K : Nat} (hN : 1 ≤ N ∧ N ≤ 3) {P : Nat → List Nat → zDR} (hK : 1 ≤ K) (hPt : zPk l Z μ π g S L mX2_passFormula K [.ref 3, .int d'] P) : zCt l Z mX2_passBrackets (K + 1) 0 0 [.ref 3, .int d, .int (nI N)] (zA4 μ σ π g) (zPq L b μ σ π g (brR S L P N p ks)) := by
  refine zCt_of hZ mpX2_passBrackets (Nat.le_of_ble_eq_true rfl) (L := [some (.ref 3), some (.int d), some (.int (nI N)), none]) rfl (fun τ hY => ?_)
  have hT := hY.1
  have h30 := hX.2.1
  obtain ⟨h2, h3, h4, h5, h6, h7, h8⟩ := id hP
  obtain ⟨RES, hRES⟩ : ∃ x, x = brR S L P N p ks := ⟨_, rfl⟩
  rw [← hRES]
  have loop : ∀ n i, i + n = N → ∀ σ1 X, zPf σ σ1 → zPR L b X σ1 → bdR X (brL S L P n) = RES → zJ τ (zFn τ (zPq L b μ σ π g RES) 0 0) 8 [some (.ref 3), some (.int d), some (.int (nI N)), some (.int (nI i))] [] (zA4 μ σ1 π g) 0 0 := by
    intro n
    induction n with
    | zero =>
      intro i hi σ1 X hf1 hX1 hb
      have hb2 : X = RES := by
        rw [← hb]
        cases X with
        | inl q => rfl
        | inr s => rfl
      subst hb2
      refine J_iload_n (i := 3) hT dX2_passBrackets_8 rfl rfl ?_
      refine J_iload_n (i := 2) hT dX2_passBrackets_9 rfl rfl ?_
      refine J_icmp_ge (tgt := 51) hT dX2_passBrackets_10 (by decide) (fun _ => ?_) (fun q => absurd (nI_le (a := N) (b := i) (by omega) (by omega)) q)
      exact J_vret hT dX2_passBrackets_51 rfl (⟨rfl, _, rfl, hf1, hX1⟩) (Nat.le_refl _) (Nat.le_refl _)
    | succ n ih =>
      intro i hi σ1 X hf1 hX1 hb
      have hi30 := nI_lt (a := i) (b := N) (by omega) (by omega)
      cases X with
      | inl q =>
        have hb2 : (.inl q : zDR) = RES := hb
        obtain ⟨x1, x2, x3⟩ := hX1
        refine J_iload_n (i := 3) hT dX2_passBrackets_8 rfl rfl ?_
        refine J_iload_n (i := 2) hT dX2_passBrackets_9 rfl rfl ?_
        refine J_icmp_ge (tgt := 51) hT dX2_passBrackets_10 (by decide) (fun q => absurd q (Int32.not_le.mpr hi30)) (fun _ => ?_)
        refine J_aload_n (i := 0) hT dX2_passBrackets_13 rfl rfl ?_
        refine R_getI hT fX2_25 rfl dX2_passBrackets_14 hH.k3 ?_
        refine J_if_ne (tgt := 51) hT dX2_passBrackets_17 (by decide) (fun _ => ?_) (fun q => absurd q ((by rw [x3]; decide)))
        exact J_vret hT dX2_passBrackets_51 rfl (⟨rfl, _, rfl, hf1, by rw [← hb2]; exact ⟨x1, x2, x3⟩⟩) (Nat.le_refl _) (Nat.le_refl _)
      | inr s =>
        obtain ⟨p1, k1⟩ := s
        have hX1' : zPp L p1 k1 b σ1 := hX1
        obtain ⟨y2, y3, y4, y5, y6, y7, y8⟩ := id hX1'
        have hTx1 := hX.mv hf1
        have hb1 : bdR (P p1 k1) (fun q k => bdR (sgR S L (if n = 0 then 41 else 44) q k) (brL S L P n)) = RES := hb
        refine J_iload_n (i := 3) hT dX2_passBrackets_8 rfl rfl ?_
        refine J_iload_n (i := 2) hT dX2_passBrackets_9 rfl rfl ?_
        refine J_icmp_ge (tgt := 51) hT dX2_passBrackets_10 (by decide) (fun q => absurd q (Int32.not_le.mpr hi30)) (fun _ => ?_)
        refine J_aload_n (i := 0) hT dX2_passBrackets_13 rfl rfl ?_
        refine R_getI hT fX2_25 rfl dX2_passBrackets_14 hH.k3 ?_
        refine J_if_ne (tgt := 51) hT dX2_passBrackets_17 (by decide) (fun q => absurd (y5) q) (fun _ => ?_)
        refine J_aload_n (i := 0) hT dX2_passBrackets_20 rfl rfl ?_
        refine J_iload_n (i := 1) hT dX2_passBrackets_21 rfl rfl ?_
        refine J_iconst (v := 1) hT dX2_passBrackets_22 rfl ?_
        refine J_iadd hT dX2_passBrackets_23 ?_
        refine J_topil (hd) ?_
        refine J_callV (ci := 2) hY dX2_passBrackets_24 mfX2_passFormula miX2_passFormula msX2_passFormula kX2_33 ⟨by decide, rfl⟩ hH.k3 (hPt σ1 p1 b k1 hTx1 hX1') rfl (by omega) rfl rfl (Nat.le_of_ble_eq_true rfl) (Nat.le_refl _) (Nat.le_refl _) (fun r2 μ2 hq2 => ?_)
        obtain ⟨rfl, σ2, rfl, hf2, hR2⟩ := hq2
        show zJ _ _ _ _ [] _ _ _
        have hf12 := hf1.tr hf2
        have hTx2 := hX.mv hf12
        cases hXX : P p1 k1 with
        | inl q =>
          rw [hXX] at hR2 hb1
          obtain ⟨z1, z2, z3⟩ := id hR2
          have hb2 : (.inl q : zDR) = RES := hb1
          by_cases hn : n = 0
          · refine J_aload_n (i := 0) hT dX2_passBrackets_27 rfl rfl ?_
            refine J_iload_n (i := 3) hT dX2_passBrackets_28 rfl rfl ?_
            refine J_iload_n (i := 2) hT dX2_passBrackets_29 rfl rfl ?_
            refine J_iconst (v := 1) hT dX2_passBrackets_30 rfl ?_
            refine J_isub hT dX2_passBrackets_31 ?_
            refine J_topil ((nI_pr hN.1)) ?_
            refine J_icmp_ge (tgt := 40) hT dX2_passBrackets_32 (by decide) (fun _ => ?_) (fun q => absurd (nI_le (a := N - 1) (b := i) (by omega) (by omega)) q)
            refine J_bipush (v := 41) hT dX2_passBrackets_40 rfl ?_
            refine J_callV (ci := 2) hY dX2_passBrackets_42 mfX2_passSign miX2_passSign msX2_passSign kX2_101 ⟨by decide, rfl⟩ hH.k3 (c_X2_passSignS (b := b) hZ hH hTx2 hR2) rfl (by omega) rfl rfl (Nat.le_of_ble_eq_true rfl) (Nat.le_refl _) (Nat.le_refl _) (fun r3 μ3 hq3 => ?_)
            obtain ⟨rfl, σ3, rfl, hf3, hR3⟩ := hq3
            show zJ _ _ _ _ [] _ _ _
            refine S_iinc3 hT dX2_passBrackets_45 (nI_inc _) rfl ?_
            refine J_goto (tgt := 8) hT dX2_passBrackets_48 (by decide) ?_
            exact ih (i + 1) (by omega) _ (.inl q) (hf12.tr hf3) hR3 hb2
          · refine J_aload_n (i := 0) hT dX2_passBrackets_27 rfl rfl ?_
            refine J_iload_n (i := 3) hT dX2_passBrackets_28 rfl rfl ?_
            refine J_iload_n (i := 2) hT dX2_passBrackets_29 rfl rfl ?_
            refine J_iconst (v := 1) hT dX2_passBrackets_30 rfl ?_
            refine J_isub hT dX2_passBrackets_31 ?_
            refine J_topil ((nI_pr hN.1)) ?_
            refine J_icmp_ge (tgt := 40) hT dX2_passBrackets_32 (by decide) (fun q => absurd q (Int32.not_le.mpr (nI_lt (a := i) (b := N - 1) (by omega) (by omega)))) (fun _ => ?_)
            refine J_bipush (v := 44) hT dX2_passBrackets_35 rfl ?_
            refine J_goto (tgt := 42) hT dX2_passBrackets_37 (by decide) ?_
            refine J_callV (ci := 2) hY dX2_passBrackets_42 mfX2_passSign miX2_passSign msX2_passSign kX2_101 ⟨by decide, rfl⟩ hH.k3 (c_X2_passSignS (b := b) hZ hH hTx2 hR2) rfl (by omega) rfl rfl (Nat.le_of_ble_eq_true rfl) (Nat.le_refl _) (Nat.le_refl _) (fun r3 μ3 hq3 => ?_)
            obtain ⟨rfl, σ3, rfl, hf3, hR3⟩ := hq3
            show zJ _ _ _ _ [] _ _ _
            refine S_iinc3 hT dX2_passBrackets_45 (nI_inc _) rfl ?_
            refine J_goto (tgt := 8) hT dX2_passBrackets_48 (by decide) ?_
            exact ih (i + 1) (by omega) _ (.inl q) (hf12.tr hf3) hR3 hb2
        | inr s =>
          obtain ⟨p2, k2⟩ := s
          rw [hXX] at hR2 hb1
          have hR2' : zPp L p2 k2 b σ2 := hR2
          have hb2 : bdR (sgR S L (if n = 0 then 41 else 44) p2 k2) (brL S L P n) = RES := hb1
          by_cases hn : n = 0
          · rw [if_pos hn] at hb2
            refine J_aload_n (i := 0) hT dX2_passBrackets_27 rfl rfl ?_
            refine J_iload_n (i := 3) hT dX2_passBrackets_28 rfl rfl ?_
            refine J_iload_n (i := 2) hT dX2_passBrackets_29 rfl rfl ?_
            refine J_iconst (v := 1) hT dX2_passBrackets_30 rfl ?_
            refine J_isub hT dX2_passBrackets_31 ?_
            refine J_topil ((nI_pr hN.1)) ?_
            refine J_icmp_ge (tgt := 40) hT dX2_passBrackets_32 (by decide) (fun _ => ?_) (fun q => absurd (nI_le (a := N - 1) (b := i) (by omega) (by omega)) q)
            refine J_bipush (v := 41) hT dX2_passBrackets_40 rfl ?_
            refine J_callV (ci := 2) hY dX2_passBrackets_42 mfX2_passSign miX2_passSign msX2_passSign kX2_101 ⟨by decide, rfl⟩ hH.k3 (c_X2_passSign hZ hH hTx2 hR2' (c := 41) (by decide)) rfl (by omega) rfl rfl (Nat.le_of_ble_eq_true rfl) (Nat.le_refl _) (Nat.le_refl _) (fun r3 μ3 hq3 => ?_)
            obtain ⟨rfl, σ3, rfl, hf3, hR3⟩ := hq3
            show zJ _ _ _ _ [] _ _ _
            refine S_iinc3 hT dX2_passBrackets_45 (nI_inc _) rfl ?_
            refine J_goto (tgt := 8) hT dX2_passBrackets_48 (by decide) ?_
            exact ih (i + 1) (by omega) _ _ (hf12.tr hf3) (hR3.le (by omega)) hb2
          · rw [if_neg hn] at hb2
            refine J_aload_n (i := 0) hT dX2_passBrackets_27 rfl rfl ?_
            refine J_iload_n (i := 3) hT dX2_passBrackets_28 rfl rfl ?_
            refine J_iload_n (i := 2) hT dX2_passBrackets_29 rfl rfl ?_
            refine J_iconst (v := 1) hT dX2_passBrackets_30 rfl ?_
            refine J_isub hT dX2_passBrackets_31 ?_
            refine J_topil ((nI_pr hN.1)) ?_
            refine J_icmp_ge (tgt := 40) hT dX2_passBrackets_32 (by decide) (fun q => absurd q (Int32.not_le.mpr (nI_lt (a := i) (b := N - 1) (by omega) (by omega)))) (fun _ => ?_)
            refine J_bipush (v := 44) hT dX2_passBrackets_35 rfl ?_
            refine J_goto (tgt := 42) hT dX2_passBrackets_37 (by decide) ?_
            refine J_callV (ci := 2) hY dX2_passBrackets_42 mfX2_passSign miX2_passSign msX2_passSign kX2_101 ⟨by decide, rfl⟩ hH.k3 (c_X2_passSign hZ hH hTx2 hR2' (c := 44) (by decide)) rfl (by omega) rfl rfl (Nat.le_of_ble_eq_true rfl) (Nat.le_refl _) (Nat.le_refl _) (fun r3 μ3 hq3 => ?_)
            obtain ⟨rfl, σ3, rfl, hf3, hR3⟩ := hq3
            show zJ _ _ _ _ [] _ _ _
            refine S_iinc3 hT dX2_passBrackets_45 (nI_inc _) rfl ?_
            refine J_goto (tgt := 8) hT dX2_passBrackets_48 (by decide) ?_
            exact ih (i + 1) (by omega) _ _ (hf12.tr hf3) (hR3.le (by omega)) hb2
  refine J_aload_n (i := 0) hT dX2_passBrackets_0 rfl rfl ?_
  refine J_bipush (v := 40) hT dX2_passBrackets_1 rfl ?_
  refine J_callV (ci := 2) hY dX2_passBrackets_3 mfX2_passSign miX2_passSign msX2_passSign kX2_101 ⟨by decide, rfl⟩ hH.k3 (c_X2_passSign hZ hH hX hP (c := 40) (by decide)) rfl (by omega) rfl rfl (Nat.le_of_ble_eq_true rfl) (Nat.le_refl _) (Nat.le_refl _) (fun r1 μ1 hq1 => ?_)
  obtain ⟨rfl, σ1, rfl, hf1, hR1⟩ := hq1
  show zJ _ _ _ _ [] _ _ _
  refine J_iconst (v := 0) hT dX2_passBrackets_6 rfl ?_
  refine S_istore3 hT dX2_passBrackets_7 rfl rfl ?_
  exact loop N 0 (by omega) _ _ hf1 (hR1.le (by omega)) hRES.symm


