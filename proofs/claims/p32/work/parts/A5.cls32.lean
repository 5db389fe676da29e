/-- op, first bit and count of a name's letter -/
def nmK (a w fr : Int32) (cn : Nat) : Prop := (a = 99 ∧ w = 1 ∧ fr = 0 ∧ cn = 12) ∨ (a = 114 ∧ w = 2 ∧ fr = 12 ∧ cn = 5) ∨ (a = 108 ∧ w = 3 ∧ fr = 17 ∧ cn = 5)
theorem enc_c : ∀ d, d < 12 → nI d <<< ((4 : Int32) &&& 31) ||| 1 = enc (20000 + d) ∧ rdB (20000 + d) = (1 : Int32) <<< ((0 + nI d) &&& 31) := by decide +kernel
theorem enc_r : ∀ d, d < 5 → nI d <<< ((4 : Int32) &&& 31) ||| 2 = enc (21000 + d) ∧ rdB (21000 + d) = (1 : Int32) <<< ((12 + nI d) &&& 31) := by decide +kernel
theorem enc_l : ∀ d, d < 5 → nI d <<< ((4 : Int32) &&& 31) ||| 3 = enc (22000 + d) ∧ rdB (22000 + d) = (1 : Int32) <<< ((17 + nI d) &&& 31) := by decide +kernel
theorem enc_d : ∀ d, d < 11 → 1 ≤ d → (0 : Int32) <<< ((4 : Int32) &&& 31) ||| nI (d + 3) = enc (30000 + d) ∧ rdB (30000 + d) = 0 := by decide +kernel
theorem nmK.tok {a w fr : Int32} {cn d : Nat} (h : nmK a w fr cn) (hd : d < cn) : nI d <<< ((4 : Int32) &&& 31) ||| w = enc (nmBase a + d) ∧ rdB (nmBase a + d) = (1 : Int32) <<< ((fr + nI d) &&& 31) := by
  rcases h with ⟨rfl, rfl, rfl, rfl⟩ | ⟨rfl, rfl, rfl, rfl⟩ | ⟨rfl, rfl, rfl, rfl⟩
  · exact enc_c d hd
  · exact enc_r d hd
  · exact enc_l d hd
theorem nmK.cn {a w fr : Int32} {cn : Nat} (h : nmK a w fr cn) : cn ≤ 12 ∧ (a = 99 → cn = 12) ∧ (a ≠ 99 → cn = 5) := by
  rcases h with ⟨rfl, rfl, rfl, rfl⟩ | ⟨rfl, rfl, rfl, rfl⟩ | ⟨rfl, rfl, rfl, rfl⟩ <;> decide
theorem fig_v {S : zS2} {L p : Nat} (h : p < L) (hf : figB (S 68 p) = true) : (if figB (ltr S L p) = true then ltr S L p - 48 else -1) = nI (txN S p - 48) ∧ 48 ≤ txN S p ∧ txN S p ≤ 57 := by
  rw [ltr_in h, if_pos hf]
  obtain ⟨h1, h2, -⟩ := figB_tx hf
  exact ⟨sub48 hf, h1, h2⟩
theorem fig_n {S : zS2} {L p : Nat} (h : ¬ figB (ltr S L p) = true) : (if figB (ltr S L p) = true then ltr S L p - 48 else -1) = -1 := if_neg h
theorem zPp.nm {L p : Nat} {ks : List Nat} {b x : Nat} {σ : zS2} (h : zPp L p ks (b + 1) σ) : zPp L p (x :: ks) b (zu (zu (zu σ 3 3 (σ 3 3 ||| rdB x)) 4 ks.length (enc x)) 3 2 (nI (ks.length + 1))) := by
  obtain ⟨h1, h2, h3, h4, h5, h6, h7⟩ := h
  have e : ∀ j, j ≠ 2 → j ≠ 3 → zu (zu (zu σ 3 3 (σ 3 3 ||| rdB x)) 4 ks.length (enc x)) 3 2 (nI (ks.length + 1)) 3 j = σ 3 j := fun j hj hj3 => (zu_nj _ _ _ _ _ hj).trans ((zu_ne _ _ _ _ (by decide) j).trans (zu_nj _ _ _ _ _ hj3))
  refine ⟨zu_eq _ _ _ _, ?_, (e 4 (by decide) (by decide)).trans h3, (e 5 (by decide) (by decide)).trans h4, ⟨(zu_ne _ _ _ _ (by decide) _).trans (zu_eq _ _ _ _), h5.mv (fun j hj => (zu_ne _ _ _ _ (by decide) j).trans ((zu_nj _ _ _ _ _ (by omega)).trans (zu_ne _ _ _ _ (by decide) j)))⟩, by simp only [List.length_cons]; omega, h7⟩
  rw [(zu_nj _ _ _ _ _ (by decide)).trans ((zu_ne _ _ _ _ (by decide) _).trans (zu_eq _ _ _ _)), h2, pkm]
theorem nmR_bad {S : zS2} {L p : Nat} {ks : List Nat} (h : nmBad S L p = true) : nmR S L p ks = .inl (p + 1) := if_pos h
theorem nmR_ok {S : zS2} {L p : Nat} {ks : List Nat} (h : nmBad S L p = false) : nmR S L p ks = .inr (nmP S L p, (nmBase (S 68 p) + nmV S L p) :: ks) := if_neg (by rw [h]; decide)
theorem nmR_1 {S : zS2} {L p : Nat} {ks : List Nat} (h : nmBad S L p = false) (h2 : nmTwo S L p = false) : nmR S L p ks = .inr (p + 2, (nmBase (S 68 p) + (txN S (p + 1) - 48)) :: ks) := by
  rw [nmR_ok h]; unfold nmP nmV; rw [h2]; rfl
theorem nmR_2 {S : zS2} {L p : Nat} {ks : List Nat} (h : nmBad S L p = false) (h2 : nmTwo S L p = true) : nmR S L p ks = .inr (p + 3, (nmBase (S 68 p) + (10 + (txN S (p + 2) - 48))) :: ks) := by
  rw [nmR_ok h]; unfold nmP nmV; rw [h2]; rfl
theorem nI_ne1 {n : Nat} (h : n < 1000000) : nI n ≠ -1 := fun q => by
  have e := congrArg Int32.toInt q
  rw [nI_toInt (by omega)] at e
  have : (-1 : Int32).toInt = -1 := rfl
  omega
theorem nI_t10 (a b : Nat) : nI a * 10 + nI b = nI (a * 10 + b) := by rw [show (10 : Int32) = nI 10 from rfl, nI_mul, nI_add]
set_option maxRecDepth 100000 in
set_option maxHeartbeats 4000000 in
theorem c_X2_passName {l : Launch} {Z : zZ} (hZ : zSt l Z) {μ : zMem} {σ : zS2} {π : zP2} {g : zG2} {S : zS2} {L : Nat} (hH : zPh μ π) (hX : zTx S L σ) {p b : Nat} {ks : List Nat} (hP : zPp L p ks b σ) (hp : p < L) {w fr : Int32} {cn : Nat} (hK : nmK (S 68 p) w fr cn) : zCt l Z mX2_passName 2 0 0 [.ref 3, .int w, .int fr, .int (nI cn)] (zA4 μ σ π g) (zPq L b μ σ π g (nmR S L p ks)) := by
  refine zCt_of hZ mpX2_passName (Nat.le_of_ble_eq_true rfl) (L := [some (.ref 3), some (.int w), some (.int fr), some (.int (nI cn)), none, none]) rfl (fun τ hY => ?_)
  have hT := hY.1
  have h30 := hX.2.1
  obtain ⟨h2, h3, h4, h5, h6, h7, h8⟩ := id hP
  obtain ⟨hc12, hcA, hcB⟩ := hK.cn
  have hge : 5 ≤ cn := by
    by_cases q : S 68 p = 99
    · have := hcA q; omega
    · have := hcB q; omega
  have fin : ∀ σ1 q d (c5 : Int32), zPf σ σ1 → zPp L q ks (b + 1) σ1 → d < cn → nmR S L p ks = .inr (q, (nmBase (S 68 p) + d) :: ks) → zJ τ (zFn τ (zPq L b μ σ π g (nmR S L p ks)) 0 0) 101 [some (.ref 3), some (.int w), some (.int fr), some (.int (nI cn)), some (.int (nI d)), some (.int c5)] [] (zA4 μ σ1 π g) 0 0 := by
    intro σ1 q d c5 hf hP1 hd hR
    obtain ⟨t1, t2⟩ := hK.tok hd
    have hP3 := hP1.nm (x := nmBase (S 68 p) + d)
    have a2 := hP1.1
    have a5 := hP1.2.2.2.1
    have a6 := hP1.2.2.2.2.2
    refine J_aload_n (i := 0) hT dX2_passName_101 rfl rfl ?_
    refine J_dup hT dX2_passName_102 rfl ?_
    refine R_getI hT fX2_19 rfl dX2_passName_103 hH.k3 ?_
    refine J_iload_n (i := 2) hT dX2_passName_106 rfl rfl ?_
    refine J_iload (i := 4) hT dX2_passName_107 rfl ?_
    refine J_topil ((rfl)) ?_
    refine J_iadd hT dX2_passName_109 ?_
    refine R_callS1 hY dX2_passName_110 mfX8_bit mtX8_bit kX2_98 (c_X8_bit hZ) rfl (by decide) rfl rfl (Nat.le_of_ble_eq_true rfl) (Nat.le_refl _) (Nat.le_refl _) ?_
    refine J_ior hT dX2_passName_113 ?_
    refine R_putI hT fX2_19 rfl rfl dX2_passName_114 hH.k3 ?_
    refine J_aload_n (i := 0) hT dX2_passName_117 rfl rfl ?_
    refine J_iload_n (i := 1) hT dX2_passName_118 rfl rfl ?_
    refine J_iload (i := 4) hT dX2_passName_119 rfl ?_
    refine R_callV0 (ci := 2) hY dX2_passName_121 mfX2_write miX2_write msX2_write kX2_70 ⟨by decide, rfl⟩ hH.k3 (c_X2_write hZ hH ((hX.mv hf).mv (zPf.u3 _ _ _)) (ks := ks) ((zu_nj _ _ _ _ _ (by decide)).trans a2) ((zu_nj _ _ _ _ _ (by decide)).trans a5) (by omega)) rfl (by decide) rfl rfl (Nat.le_of_ble_eq_true rfl) (Nat.le_refl _) (Nat.le_refl _) ?_
    exact J_vret hT dX2_passName_124 rfl (⟨rfl, _, rfl, hf.tr ((zPf.u3 _ _ _).tr ((zPf.u4 _ _ _).tr (zPf.u3 _ _ _))), by rw [hR]; rw [t1, ← t2]; exact hP3⟩) (Nat.le_refl _) (Nat.le_refl _)
  by_cases hf1 : figB (ltr S L (p + 1)) = true
  · obtain ⟨hl1, hg1⟩ := figB_in hf1
    obtain ⟨v1, v2, v3⟩ := fig_v hl1 hg1
    by_cases hcn : txN S (p + 1) - 48 < cn
    · have hnb : nmBad S L p = false := by
        simp only [nmBad, Bool.or_eq_false_iff, Bool.and_eq_false_iff, decide_eq_false_iff_not, Bool.not_eq_false', ne_eq, Decidable.not_not, Nat.not_le]
        refine ⟨by omega, hg1, ?_⟩
        by_cases q : S 68 p = 99
        · exact Or.inl q
        · have := hcB q
          exact Or.inr (by omega)
      have base : nmTwo S L p = false → nmR S L p ks = .inr (p + 2, (nmBase (S 68 p) + (txN S (p + 1) - 48)) :: ks) := fun q => nmR_1 hnb q
      have hP2 : zPp L (p + 2) ks (b + 1) (zu σ 3 4 (nI (p + 2))) := ⟨(zu_nj _ _ _ _ _ (by decide)).trans h2, (zu_nj _ _ _ _ _ (by decide)).trans h3, zu_eq _ _ _ _, (zu_nj _ _ _ _ _ (by decide)).trans h5, h6.mv (fun j _ => zu_ne _ _ _ _ (by decide) j), by omega, by omega⟩
      by_cases hd0 : txN S (p + 1) - 48 = 0
      · have htw : nmTwo S L p = false := by
          simp only [nmTwo, Bool.and_eq_false_iff, decide_eq_false_iff_not]
          exact Or.inr (Or.inl (by omega))
        refine J_aload_n (i := 0) hT dX2_passName_0 rfl rfl ?_
        refine J_dup hT dX2_passName_1 rfl ?_
        refine R_getI hT fX2_22 rfl dX2_passName_2 hH.k3 ?_
        refine J_topil (h4) ?_
        refine J_iconst (v := 1) hT dX2_passName_5 rfl ?_
        refine J_iadd hT dX2_passName_6 ?_
        refine J_topil ((nI_1 _)) ?_
        refine R_putI hT fX2_22 rfl rfl dX2_passName_7 hH.k3 ?_
        refine J_aload_n (i := 0) hT dX2_passName_10 rfl rfl ?_
        refine J_aload_n (i := 0) hT dX2_passName_11 rfl rfl ?_
        refine R_getI hT fX2_22 rfl dX2_passName_12 hH.k3 ?_
        refine J_topil ((zu_eq _ _ _ _)) ?_
        refine R_callV1 (ci := 2) hY dX2_passName_15 mfX2_figureAt miX2_figureAt msX2_figureAt kX2_94 ⟨by decide, rfl⟩ hH.k3 (c_X2_figureAt hZ hH (hX.mv (zPf.u3 _ _ _)) (p := p + 1) (by omega)) rfl (by decide) rfl rfl (Nat.le_of_ble_eq_true rfl) (Nat.le_refl _) (Nat.le_refl _) ?_
        refine J_topil (v1) ?_
        refine S_istore4 hT dX2_passName_18 rfl ?_
        refine J_iload (i := 4) hT dX2_passName_20 rfl ?_
        refine J_iconst (v := -1) hT dX2_passName_22 rfl ?_
        refine J_icmp_eq (tgt := 32) hT dX2_passName_23 (by decide) (fun q => absurd q ((nI_ne1 (n := txN S (p + 1) - 48) (by omega)))) (fun _ => ?_)
        refine J_iload (i := 4) hT dX2_passName_26 rfl ?_
        refine J_iload_n (i := 3) hT dX2_passName_28 rfl rfl ?_
        refine J_icmp_lt (tgt := 38) hT dX2_passName_29 (by decide) (fun _ => ?_) (fun q => absurd (nI_lt (a := txN S (p + 1) - 48) (b := cn) (by omega) (by omega)) q)
        refine J_aload_n (i := 0) hT dX2_passName_38 rfl rfl ?_
        refine J_dup hT dX2_passName_39 rfl ?_
        refine R_getI hT fX2_22 rfl dX2_passName_40 hH.k3 ?_
        refine J_topil ((zu_eq _ _ _ _)) ?_
        refine J_iconst (v := 1) hT dX2_passName_43 rfl ?_
        refine J_iadd hT dX2_passName_44 ?_
        refine J_topil ((nI_1 _)) ?_
        refine R_putI hT fX2_22 rfl rfl dX2_passName_45 hH.k3 ?_
        refine J_mu (congrArg (fun s => zA4 μ s π g) (zu_zu _ _ _ _ _)) ?_
        refine J_aload_n (i := 0) hT dX2_passName_48 rfl rfl ?_
        refine J_aload_n (i := 0) hT dX2_passName_49 rfl rfl ?_
        refine R_getI hT fX2_22 rfl dX2_passName_50 hH.k3 ?_
        refine J_topil ((zu_eq _ _ _ _)) ?_
        refine R_callV1 (ci := 2) hY dX2_passName_53 mfX2_figureAt miX2_figureAt msX2_figureAt kX2_94 ⟨by decide, rfl⟩ hH.k3 (c_X2_figureAt hZ hH (hX.mv (zPf.u3 _ _ _)) (p := p + 2) (by omega)) rfl (by decide) rfl rfl (Nat.le_of_ble_eq_true rfl) (Nat.le_refl _) (Nat.le_refl _) ?_
        refine J_topil ((rfl)) ?_
        refine S_istore5 hT dX2_passName_56 rfl ?_
        refine J_iload (i := 4) hT dX2_passName_58 rfl ?_
        refine J_if_le (tgt := 101) hT dX2_passName_60 (by decide) (fun _ => ?_) (fun q => absurd ((by rw [hd0]; decide)) q)
        exact fin _ (p + 2) _ _ (zPf.u3 _ _ _) hP2 hcn (base htw)
      · by_cases hf2 : figB (ltr S L (p + 2)) = true
        · obtain ⟨hl2, hg2⟩ := figB_in hf2
          obtain ⟨w1, w2, w3⟩ := fig_v hl2 hg2
          have hx2 : S 68 (p + 2) = nI (txN S (p + 2)) := (figB_tx hg2).2.2
          by_cases hbig : (txN S (p + 1) - 48) * 10 + (txN S (p + 2) - 48) < cn
          · have hc : S 68 p = 99 := by
              by_cases q : S 68 p = 99
              · exact q
              · have := hcB q
                omega
            have hc1 := hcA hc
            have htw : nmTwo S L p = true := by
              simp only [nmTwo, Bool.and_eq_true, Bool.or_eq_true, decide_eq_true_eq]
              refine ⟨hc, by omega, hl2, ?_⟩
              rw [hx2]
              have : txN S (p + 2) = 48 ∨ txN S (p + 2) = 49 := by omega
              rcases this with q | q
              · rw [q]; exact Or.inl rfl
              · rw [q]; exact Or.inr rfl
            have hR := nmR_2 (ks := ks) hnb htw
            have hP3 : zPp L (p + 3) ks (b + 1) (zu σ 3 4 (nI (p + 3))) := ⟨(zu_nj _ _ _ _ _ (by decide)).trans h2, (zu_nj _ _ _ _ _ (by decide)).trans h3, zu_eq _ _ _ _, (zu_nj _ _ _ _ _ (by decide)).trans h5, h6.mv (fun j _ => zu_ne _ _ _ _ (by decide) j), by omega, by omega⟩
            have en : (txN S (p + 1) - 48) * 10 + (txN S (p + 2) - 48) = 10 + (txN S (p + 2) - 48) := by omega
            refine J_aload_n (i := 0) hT dX2_passName_0 rfl rfl ?_
            refine J_dup hT dX2_passName_1 rfl ?_
            refine R_getI hT fX2_22 rfl dX2_passName_2 hH.k3 ?_
            refine J_topil (h4) ?_
            refine J_iconst (v := 1) hT dX2_passName_5 rfl ?_
            refine J_iadd hT dX2_passName_6 ?_
            refine J_topil ((nI_1 _)) ?_
            refine R_putI hT fX2_22 rfl rfl dX2_passName_7 hH.k3 ?_
            refine J_aload_n (i := 0) hT dX2_passName_10 rfl rfl ?_
            refine J_aload_n (i := 0) hT dX2_passName_11 rfl rfl ?_
            refine R_getI hT fX2_22 rfl dX2_passName_12 hH.k3 ?_
            refine J_topil ((zu_eq _ _ _ _)) ?_
            refine R_callV1 (ci := 2) hY dX2_passName_15 mfX2_figureAt miX2_figureAt msX2_figureAt kX2_94 ⟨by decide, rfl⟩ hH.k3 (c_X2_figureAt hZ hH (hX.mv (zPf.u3 _ _ _)) (p := p + 1) (by omega)) rfl (by decide) rfl rfl (Nat.le_of_ble_eq_true rfl) (Nat.le_refl _) (Nat.le_refl _) ?_
            refine J_topil (v1) ?_
            refine S_istore4 hT dX2_passName_18 rfl ?_
            refine J_iload (i := 4) hT dX2_passName_20 rfl ?_
            refine J_iconst (v := -1) hT dX2_passName_22 rfl ?_
            refine J_icmp_eq (tgt := 32) hT dX2_passName_23 (by decide) (fun q => absurd q ((nI_ne1 (n := txN S (p + 1) - 48) (by omega)))) (fun _ => ?_)
            refine J_iload (i := 4) hT dX2_passName_26 rfl ?_
            refine J_iload_n (i := 3) hT dX2_passName_28 rfl rfl ?_
            refine J_icmp_lt (tgt := 38) hT dX2_passName_29 (by decide) (fun _ => ?_) (fun q => absurd (nI_lt (a := txN S (p + 1) - 48) (b := cn) (by omega) (by omega)) q)
            refine J_aload_n (i := 0) hT dX2_passName_38 rfl rfl ?_
            refine J_dup hT dX2_passName_39 rfl ?_
            refine R_getI hT fX2_22 rfl dX2_passName_40 hH.k3 ?_
            refine J_topil ((zu_eq _ _ _ _)) ?_
            refine J_iconst (v := 1) hT dX2_passName_43 rfl ?_
            refine J_iadd hT dX2_passName_44 ?_
            refine J_topil ((nI_1 _)) ?_
            refine R_putI hT fX2_22 rfl rfl dX2_passName_45 hH.k3 ?_
            refine J_mu (congrArg (fun s => zA4 μ s π g) (zu_zu _ _ _ _ _)) ?_
            refine J_aload_n (i := 0) hT dX2_passName_48 rfl rfl ?_
            refine J_aload_n (i := 0) hT dX2_passName_49 rfl rfl ?_
            refine R_getI hT fX2_22 rfl dX2_passName_50 hH.k3 ?_
            refine J_topil ((zu_eq _ _ _ _)) ?_
            refine R_callV1 (ci := 2) hY dX2_passName_53 mfX2_figureAt miX2_figureAt msX2_figureAt kX2_94 ⟨by decide, rfl⟩ hH.k3 (c_X2_figureAt hZ hH (hX.mv (zPf.u3 _ _ _)) (p := p + 2) (by omega)) rfl (by decide) rfl rfl (Nat.le_of_ble_eq_true rfl) (Nat.le_refl _) (Nat.le_refl _) ?_
            refine J_topil (w1) ?_
            refine S_istore5 hT dX2_passName_56 rfl ?_
            refine J_iload (i := 4) hT dX2_passName_58 rfl ?_
            refine J_if_le (tgt := 101) hT dX2_passName_60 (by decide) (fun q => absurd q (Int32.not_le.mpr (nI_lt (a := 0) (b := txN S (p + 1) - 48) (by omega) (by omega)))) (fun _ => ?_)
            refine J_iload (i := 5) hT dX2_passName_63 rfl ?_
            refine J_iconst (v := -1) hT dX2_passName_65 rfl ?_
            refine J_icmp_eq (tgt := 101) hT dX2_passName_66 (by decide) (fun q => absurd q ((nI_ne1 (n := txN S (p + 2) - 48) (by omega)))) (fun _ => ?_)
            refine J_iload (i := 4) hT dX2_passName_69 rfl ?_
            refine J_bipush (v := 10) hT dX2_passName_71 rfl ?_
            refine J_imul hT dX2_passName_73 ?_
            refine J_iload (i := 5) hT dX2_passName_74 rfl ?_
            refine J_iadd hT dX2_passName_76 ?_
            refine J_topil ((nI_t10 _ _)) ?_
            refine J_iload_n (i := 3) hT dX2_passName_77 rfl rfl ?_
            refine J_icmp_ge (tgt := 101) hT dX2_passName_78 (by decide) (fun q => absurd q (Int32.not_le.mpr (nI_lt (a := (txN S (p + 1) - 48) * 10 + (txN S (p + 2) - 48)) (b := cn) hbig (by omega)))) (fun _ => ?_)
            refine J_iload (i := 4) hT dX2_passName_81 rfl ?_
            refine J_bipush (v := 10) hT dX2_passName_83 rfl ?_
            refine J_imul hT dX2_passName_85 ?_
            refine J_iload (i := 5) hT dX2_passName_86 rfl ?_
            refine J_iadd hT dX2_passName_88 ?_
            refine J_topil (((nI_t10 _ _).trans (congrArg nI en))) ?_
            refine S_istore4 hT dX2_passName_89 rfl ?_
            refine J_aload_n (i := 0) hT dX2_passName_91 rfl rfl ?_
            refine J_dup hT dX2_passName_92 rfl ?_
            refine R_getI hT fX2_22 rfl dX2_passName_93 hH.k3 ?_
            refine J_topil ((zu_eq _ _ _ _)) ?_
            refine J_iconst (v := 1) hT dX2_passName_96 rfl ?_
            refine J_iadd hT dX2_passName_97 ?_
            refine J_topil ((nI_1 _)) ?_
            refine R_putI hT fX2_22 rfl rfl dX2_passName_98 hH.k3 ?_
            refine J_mu (congrArg (fun s => zA4 μ s π g) (zu_zu _ _ _ _ _)) ?_
            exact fin _ (p + 3) _ _ (zPf.u3 _ _ _) hP3 (by omega) hR
          · have htw : nmTwo S L p = false := by
              simp only [nmTwo, Bool.and_eq_false_iff, Bool.or_eq_false_iff, decide_eq_false_iff_not]
              by_cases q : S 68 p = 99
              · refine Or.inr ?_
                by_cases q1 : txN S (p + 1) = 49
                · refine Or.inr (Or.inr ⟨fun z => ?_, fun z => ?_⟩)
                  · rw [hx2] at z
                    have := (nI_eq (a := txN S (p + 2)) (b := 48) (by omega) (by omega)).mp z
                    have := hcA q
                    omega
                  · rw [hx2] at z
                    have := (nI_eq (a := txN S (p + 2)) (b := 49) (by omega) (by omega)).mp z
                    have := hcA q
                    omega
                · exact Or.inl q1
              · exact Or.inl q
            refine J_aload_n (i := 0) hT dX2_passName_0 rfl rfl ?_
            refine J_dup hT dX2_passName_1 rfl ?_
            refine R_getI hT fX2_22 rfl dX2_passName_2 hH.k3 ?_
            refine J_topil (h4) ?_
            refine J_iconst (v := 1) hT dX2_passName_5 rfl ?_
            refine J_iadd hT dX2_passName_6 ?_
            refine J_topil ((nI_1 _)) ?_
            refine R_putI hT fX2_22 rfl rfl dX2_passName_7 hH.k3 ?_
            refine J_aload_n (i := 0) hT dX2_passName_10 rfl rfl ?_
            refine J_aload_n (i := 0) hT dX2_passName_11 rfl rfl ?_
            refine R_getI hT fX2_22 rfl dX2_passName_12 hH.k3 ?_
            refine J_topil ((zu_eq _ _ _ _)) ?_
            refine R_callV1 (ci := 2) hY dX2_passName_15 mfX2_figureAt miX2_figureAt msX2_figureAt kX2_94 ⟨by decide, rfl⟩ hH.k3 (c_X2_figureAt hZ hH (hX.mv (zPf.u3 _ _ _)) (p := p + 1) (by omega)) rfl (by decide) rfl rfl (Nat.le_of_ble_eq_true rfl) (Nat.le_refl _) (Nat.le_refl _) ?_
            refine J_topil (v1) ?_
            refine S_istore4 hT dX2_passName_18 rfl ?_
            refine J_iload (i := 4) hT dX2_passName_20 rfl ?_
            refine J_iconst (v := -1) hT dX2_passName_22 rfl ?_
            refine J_icmp_eq (tgt := 32) hT dX2_passName_23 (by decide) (fun q => absurd q ((nI_ne1 (n := txN S (p + 1) - 48) (by omega)))) (fun _ => ?_)
            refine J_iload (i := 4) hT dX2_passName_26 rfl ?_
            refine J_iload_n (i := 3) hT dX2_passName_28 rfl rfl ?_
            refine J_icmp_lt (tgt := 38) hT dX2_passName_29 (by decide) (fun _ => ?_) (fun q => absurd (nI_lt (a := txN S (p + 1) - 48) (b := cn) (by omega) (by omega)) q)
            refine J_aload_n (i := 0) hT dX2_passName_38 rfl rfl ?_
            refine J_dup hT dX2_passName_39 rfl ?_
            refine R_getI hT fX2_22 rfl dX2_passName_40 hH.k3 ?_
            refine J_topil ((zu_eq _ _ _ _)) ?_
            refine J_iconst (v := 1) hT dX2_passName_43 rfl ?_
            refine J_iadd hT dX2_passName_44 ?_
            refine J_topil ((nI_1 _)) ?_
            refine R_putI hT fX2_22 rfl rfl dX2_passName_45 hH.k3 ?_
            refine J_mu (congrArg (fun s => zA4 μ s π g) (zu_zu _ _ _ _ _)) ?_
            refine J_aload_n (i := 0) hT dX2_passName_48 rfl rfl ?_
            refine J_aload_n (i := 0) hT dX2_passName_49 rfl rfl ?_
            refine R_getI hT fX2_22 rfl dX2_passName_50 hH.k3 ?_
            refine J_topil ((zu_eq _ _ _ _)) ?_
            refine R_callV1 (ci := 2) hY dX2_passName_53 mfX2_figureAt miX2_figureAt msX2_figureAt kX2_94 ⟨by decide, rfl⟩ hH.k3 (c_X2_figureAt hZ hH (hX.mv (zPf.u3 _ _ _)) (p := p + 2) (by omega)) rfl (by decide) rfl rfl (Nat.le_of_ble_eq_true rfl) (Nat.le_refl _) (Nat.le_refl _) ?_
            refine J_topil (w1) ?_
            refine S_istore5 hT dX2_passName_56 rfl ?_
            refine J_iload (i := 4) hT dX2_passName_58 rfl ?_
            refine J_if_le (tgt := 101) hT dX2_passName_60 (by decide) (fun q => absurd q (Int32.not_le.mpr (nI_lt (a := 0) (b := txN S (p + 1) - 48) (by omega) (by omega)))) (fun _ => ?_)
            refine J_iload (i := 5) hT dX2_passName_63 rfl ?_
            refine J_iconst (v := -1) hT dX2_passName_65 rfl ?_
            refine J_icmp_eq (tgt := 101) hT dX2_passName_66 (by decide) (fun q => absurd q ((nI_ne1 (n := txN S (p + 2) - 48) (by omega)))) (fun _ => ?_)
            refine J_iload (i := 4) hT dX2_passName_69 rfl ?_
            refine J_bipush (v := 10) hT dX2_passName_71 rfl ?_
            refine J_imul hT dX2_passName_73 ?_
            refine J_iload (i := 5) hT dX2_passName_74 rfl ?_
            refine J_iadd hT dX2_passName_76 ?_
            refine J_topil ((nI_t10 _ _)) ?_
            refine J_iload_n (i := 3) hT dX2_passName_77 rfl rfl ?_
            refine J_icmp_ge (tgt := 101) hT dX2_passName_78 (by decide) (fun _ => ?_) (fun q => absurd (nI_le (a := cn) (b := (txN S (p + 1) - 48) * 10 + (txN S (p + 2) - 48)) (by omega) (by omega)) q)
            exact fin _ (p + 2) _ _ (zPf.u3 _ _ _) hP2 hcn (base htw)
        · have htw : nmTwo S L p = false := by
            simp only [nmTwo, Bool.and_eq_false_iff, Bool.or_eq_false_iff, decide_eq_false_iff_not]
            refine Or.inr (Or.inr ?_)
            by_cases q : p + 2 < L
            · rw [ltr_in q] at hf2
              exact Or.inr ⟨fun z => hf2 (by rw [z]; decide), fun z => hf2 (by rw [z]; decide)⟩
            · exact Or.inl q
          have w1 := fig_n hf2
          refine J_aload_n (i := 0) hT dX2_passName_0 rfl rfl ?_
          refine J_dup hT dX2_passName_1 rfl ?_
          refine R_getI hT fX2_22 rfl dX2_passName_2 hH.k3 ?_
          refine J_topil (h4) ?_
          refine J_iconst (v := 1) hT dX2_passName_5 rfl ?_
          refine J_iadd hT dX2_passName_6 ?_
          refine J_topil ((nI_1 _)) ?_
          refine R_putI hT fX2_22 rfl rfl dX2_passName_7 hH.k3 ?_
          refine J_aload_n (i := 0) hT dX2_passName_10 rfl rfl ?_
          refine J_aload_n (i := 0) hT dX2_passName_11 rfl rfl ?_
          refine R_getI hT fX2_22 rfl dX2_passName_12 hH.k3 ?_
          refine J_topil ((zu_eq _ _ _ _)) ?_
          refine R_callV1 (ci := 2) hY dX2_passName_15 mfX2_figureAt miX2_figureAt msX2_figureAt kX2_94 ⟨by decide, rfl⟩ hH.k3 (c_X2_figureAt hZ hH (hX.mv (zPf.u3 _ _ _)) (p := p + 1) (by omega)) rfl (by decide) rfl rfl (Nat.le_of_ble_eq_true rfl) (Nat.le_refl _) (Nat.le_refl _) ?_
          refine J_topil (v1) ?_
          refine S_istore4 hT dX2_passName_18 rfl ?_
          refine J_iload (i := 4) hT dX2_passName_20 rfl ?_
          refine J_iconst (v := -1) hT dX2_passName_22 rfl ?_
          refine J_icmp_eq (tgt := 32) hT dX2_passName_23 (by decide) (fun q => absurd q ((nI_ne1 (n := txN S (p + 1) - 48) (by omega)))) (fun _ => ?_)
          refine J_iload (i := 4) hT dX2_passName_26 rfl ?_
          refine J_iload_n (i := 3) hT dX2_passName_28 rfl rfl ?_
          refine J_icmp_lt (tgt := 38) hT dX2_passName_29 (by decide) (fun _ => ?_) (fun q => absurd (nI_lt (a := txN S (p + 1) - 48) (b := cn) (by omega) (by omega)) q)
          refine J_aload_n (i := 0) hT dX2_passName_38 rfl rfl ?_
          refine J_dup hT dX2_passName_39 rfl ?_
          refine R_getI hT fX2_22 rfl dX2_passName_40 hH.k3 ?_
          refine J_topil ((zu_eq _ _ _ _)) ?_
          refine J_iconst (v := 1) hT dX2_passName_43 rfl ?_
          refine J_iadd hT dX2_passName_44 ?_
          refine J_topil ((nI_1 _)) ?_
          refine R_putI hT fX2_22 rfl rfl dX2_passName_45 hH.k3 ?_
          refine J_mu (congrArg (fun s => zA4 μ s π g) (zu_zu _ _ _ _ _)) ?_
          refine J_aload_n (i := 0) hT dX2_passName_48 rfl rfl ?_
          refine J_aload_n (i := 0) hT dX2_passName_49 rfl rfl ?_
          refine R_getI hT fX2_22 rfl dX2_passName_50 hH.k3 ?_
          refine J_topil ((zu_eq _ _ _ _)) ?_
          refine R_callV1 (ci := 2) hY dX2_passName_53 mfX2_figureAt miX2_figureAt msX2_figureAt kX2_94 ⟨by decide, rfl⟩ hH.k3 (c_X2_figureAt hZ hH (hX.mv (zPf.u3 _ _ _)) (p := p + 2) (by omega)) rfl (by decide) rfl rfl (Nat.le_of_ble_eq_true rfl) (Nat.le_refl _) (Nat.le_refl _) ?_
          refine J_topil (w1) ?_
          refine S_istore5 hT dX2_passName_56 rfl ?_
          refine J_iload (i := 4) hT dX2_passName_58 rfl ?_
          refine J_if_le (tgt := 101) hT dX2_passName_60 (by decide) (fun q => absurd q (Int32.not_le.mpr (nI_lt (a := 0) (b := txN S (p + 1) - 48) (by omega) (by omega)))) (fun _ => ?_)
          refine J_iload (i := 5) hT dX2_passName_63 rfl ?_
          refine J_iconst (v := -1) hT dX2_passName_65 rfl ?_
          refine J_icmp_eq (tgt := 101) hT dX2_passName_66 (by decide) (fun _ => ?_) (fun q => absurd (rfl) q)
          exact fin _ (p + 2) _ _ (zPf.u3 _ _ _) hP2 hcn (base htw)
    · have hb : nmBad S L p = true := by
        simp only [nmBad, Bool.or_eq_true, Bool.and_eq_true, decide_eq_true_eq]
        refine Or.inr (Or.inr ⟨fun q => ?_, by omega⟩)
        have := hcA q
        omega
      rw [nmR_bad hb]
      refine J_aload_n (i := 0) hT dX2_passName_0 rfl rfl ?_
      refine J_dup hT dX2_passName_1 rfl ?_
      refine R_getI hT fX2_22 rfl dX2_passName_2 hH.k3 ?_
      refine J_topil (h4) ?_
      refine J_iconst (v := 1) hT dX2_passName_5 rfl ?_
      refine J_iadd hT dX2_passName_6 ?_
      refine J_topil ((nI_1 _)) ?_
      refine R_putI hT fX2_22 rfl rfl dX2_passName_7 hH.k3 ?_
      refine J_aload_n (i := 0) hT dX2_passName_10 rfl rfl ?_
      refine J_aload_n (i := 0) hT dX2_passName_11 rfl rfl ?_
      refine R_getI hT fX2_22 rfl dX2_passName_12 hH.k3 ?_
      refine J_topil ((zu_eq _ _ _ _)) ?_
      refine R_callV1 (ci := 2) hY dX2_passName_15 mfX2_figureAt miX2_figureAt msX2_figureAt kX2_94 ⟨by decide, rfl⟩ hH.k3 (c_X2_figureAt hZ hH (hX.mv (zPf.u3 _ _ _)) (p := p + 1) (by omega)) rfl (by decide) rfl rfl (Nat.le_of_ble_eq_true rfl) (Nat.le_refl _) (Nat.le_refl _) ?_
      refine J_topil (v1) ?_
      refine S_istore4 hT dX2_passName_18 rfl ?_
      refine J_iload (i := 4) hT dX2_passName_20 rfl ?_
      refine J_iconst (v := -1) hT dX2_passName_22 rfl ?_
      refine J_icmp_eq (tgt := 32) hT dX2_passName_23 (by decide) (fun q => absurd q ((nI_ne1 (n := txN S (p + 1) - 48) (by omega)))) (fun _ => ?_)
      refine J_iload (i := 4) hT dX2_passName_26 rfl ?_
      refine J_iload_n (i := 3) hT dX2_passName_28 rfl rfl ?_
      refine J_icmp_lt (tgt := 38) hT dX2_passName_29 (by decide) (fun q => absurd q (Int32.not_lt.mpr (nI_le (a := cn) (b := txN S (p + 1) - 48) (by omega) (by omega)))) (fun _ => ?_)
      refine J_aload_n (i := 0) hT dX2_passName_32 rfl rfl ?_
      refine J_iconst (v := 1) hT dX2_passName_33 rfl ?_
      refine R_putZ hT fX2_25 rfl rfl (by decide) dX2_passName_34 hH.k3 ?_
      exact J_vret hT dX2_passName_37 rfl (⟨rfl, _, rfl, (zPf.u3 _ _ _).tr (zPf.u3 _ _ _), zPR.stuck (by omega) (zu_eq _ _ _ _)⟩) (Nat.le_refl _) (Nat.le_refl _)
  · have hb : nmBad S L p = true := by
      simp only [nmBad, Bool.or_eq_true, decide_eq_true_eq, Bool.not_eq_true']
      by_cases q : p + 1 = L
      · exact Or.inl q
      · refine Or.inr (Or.inl ?_)
        rw [ltr_in (by omega)] at hf1
        exact Bool.eq_false_iff.mpr hf1
    rw [nmR_bad hb]
    have v1 := fig_n hf1
    refine J_aload_n (i := 0) hT dX2_passName_0 rfl rfl ?_
    refine J_dup hT dX2_passName_1 rfl ?_
    refine R_getI hT fX2_22 rfl dX2_passName_2 hH.k3 ?_
    refine J_topil (h4) ?_
    refine J_iconst (v := 1) hT dX2_passName_5 rfl ?_
    refine J_iadd hT dX2_passName_6 ?_
    refine J_topil ((nI_1 _)) ?_
    refine R_putI hT fX2_22 rfl rfl dX2_passName_7 hH.k3 ?_
    refine J_aload_n (i := 0) hT dX2_passName_10 rfl rfl ?_
    refine J_aload_n (i := 0) hT dX2_passName_11 rfl rfl ?_
    refine R_getI hT fX2_22 rfl dX2_passName_12 hH.k3 ?_
    refine J_topil ((zu_eq _ _ _ _)) ?_
    refine R_callV1 (ci := 2) hY dX2_passName_15 mfX2_figureAt miX2_figureAt msX2_figureAt kX2_94 ⟨by decide, rfl⟩ hH.k3 (c_X2_figureAt hZ hH (hX.mv (zPf.u3 _ _ _)) (p := p + 1) (by omega)) rfl (by decide) rfl rfl (Nat.le_of_ble_eq_true rfl) (Nat.le_refl _) (Nat.le_refl _) ?_
    refine J_topil (v1) ?_
    refine S_istore4 hT dX2_passName_18 rfl ?_
    refine J_iload (i := 4) hT dX2_passName_20 rfl ?_
    refine J_iconst (v := -1) hT dX2_passName_22 rfl ?_
    refine J_icmp_eq (tgt := 32) hT dX2_passName_23 (by decide) (fun _ => ?_) (fun q => absurd (rfl) q)
    refine J_aload_n (i := 0) hT dX2_passName_32 rfl rfl ?_
    refine J_iconst (v := 1) hT dX2_passName_33 rfl ?_
    refine R_putZ hT fX2_25 rfl rfl (by decide) dX2_passName_34 hH.k3 ?_
    exact J_vret hT dX2_passName_37 rfl (⟨rfl, _, rfl, (zPf.u3 _ _ _).tr (zPf.u3 _ _ _), zPR.stuck (by omega) (zu_eq _ _ _ _)⟩) (Nat.le_refl _) (Nat.le_refl _)


