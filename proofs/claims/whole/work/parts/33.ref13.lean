set_option maxRecDepth 100000 in
set_option maxHeartbeats 4000000 in
theorem c_X9_settles {l : Launch} {Z : zZ} (hZ : zSt l Z) {μ : zMem} {σ : Nat → Nat → Int32} {π : Nat → Nat → Option Nat} {g : Nat → Nat → Int64} (hS : zRef μ π) (hR : RI σ) : zCt l Z mX9_settles 5 0 0 [.ref 67] (zA4 μ σ π g) (fun r μ' => r = some (.int (nI (setF 6 σ).2)) ∧ ∃ g', μ' = zA4 μ ((setF 6 σ).1) π g' ∧ zge g g') := by
  refine zCt_of hZ mpX9_settles (Nat.le_of_ble_eq_true rfl) (L := [some (.ref 67), none, none, none, none, none]) rfl (fun τ hY => ?_)
  have hT := hY.1
  have inner : ∀ (F : State → Prop) r nn σ1 g1 s late, nn + r = 40 → RI σ1 → zge g g1 → (∀ g2 n2, zge g g2 → n2 ≤ 40 → zJ τ F 66 [some (.ref 67), some (.int (nI (s + (blkF r σ1 late).2.1))), some (.int (zbi (blkF r σ1 late).2.2.1)), some (.int (blkF r σ1 late).2.2.2), some (.int (nI n2)), none] [] (zA4 μ (blkF r σ1 late).1 π g2) 0 0) → zJ τ F 13 [some (.ref 67), some (.int (nI s)), some (.int (zbi true)), some (.int late), some (.int (nI nn)), none] [] (zA4 μ σ1 π g1) 0 0 := by
    intro F r
    induction r with
    | zero =>
      intro nn σ1 g1 s late hn hR1 hg1 K
      have e : nn = 40 := by omega
      subst e
      refine J_iload (i := 4) hT dX9_settles_13 rfl ?_
      refine J_bipush (v := 40) hT dX9_settles_15 rfl ?_
      refine J_icmp_ge (tgt := 66) hT dX9_settles_17 (by decide) (fun _ => ?_) (fun q => absurd (nI_le (a := 40) (b := 40) (by decide) (by decide)) q)
      exact K g1 40 hg1 (Nat.le_refl _)
    | succ r ih =>
      intro nn σ1 g1 s late hn hR1 hg1 K
      have ec : ∀ {P : Prop}, (nI nn < 28 → P) → (¬ nI nn < 28 → P) → P := fun a b => (Classical.em _).elim a b
      have e28 : nI nn < 28 ↔ ¬ r < 12 := by
        rw [show (28 : Int32) = nI 28 from rfl, nI_ltI (by omega) (by decide)]
        omega
      by_cases hm : maskF σ1 = 0
      · rw [blkF_0 late hm] at K
        dsimp only at K
        have stop : ∀ g2, zge g g2 → zJ τ F 13 [some (.ref 67), some (.int (nI (s + 1))), some (.int (zbi false)), some (.int (late ||| (if r < 12 then maskF σ1 else 0))), some (.int (nI (nn + 1))), none] [] (zA4 μ (roundF σ1) π g2) 0 0 := by
          intro g2 hg2
          refine J_iload (i := 4) hT dX9_settles_13 rfl ?_
          refine J_bipush (v := 40) hT dX9_settles_15 rfl ?_
          refine J_icmp_ge (tgt := 66) hT dX9_settles_17 (by decide) (fun q17 => ?_) (fun q17 => ?_)
          · exact K g2 (nn + 1) hg2 (by omega)
          · refine J_iload_n (i := 2) hT dX9_settles_20 rfl rfl ?_
            refine J_if_eq (tgt := 66) hT dX9_settles_21 (by decide) (fun _ => ?_) (fun q => absurd (rfl) q)
            exact K g2 (nn + 1) hg2 (by omega)
        refine J_iload (i := 4) hT dX9_settles_13 rfl ?_
        refine J_bipush (v := 40) hT dX9_settles_15 rfl ?_
        refine J_icmp_ge (tgt := 66) hT dX9_settles_17 (by decide) (fun q => absurd q (Int32.not_le.mpr (nI_lt (a := nn) (b := 40) (by omega) (by decide)))) (fun _ => ?_)
        refine J_iload_n (i := 2) hT dX9_settles_20 rfl rfl ?_
        refine J_if_eq (tgt := 66) hT dX9_settles_21 (by decide) (fun q => absurd q (by decide)) (fun _ => ?_)
        refine J_aload_n (i := 0) hT dX9_settles_24 rfl rfl ?_
        refine J_callV (ci := 9) hY dX9_settles_25 mfX9_round miX9_round msX9_round kX9_249 ⟨by decide, rfl⟩ (rk hS) (c_X9_round hZ hS hR1) rfl (by decide) rfl rfl (Nat.le_of_ble_eq_true rfl) (Nat.le_refl _) (Nat.le_refl _) (fun r1 μ1 hq1 => ?_)
        obtain ⟨rfl, g2, rfl, hg2⟩ := hq1
        refine S_istore5 hT dX9_settles_28 rfl ?_
        refine S_iinc1 hT dX9_settles_30 (nI_inc _) rfl ?_
        refine J_iload (i := 5) hT dX9_settles_33 rfl ?_
        refine J_if_eq (tgt := 42) hT dX9_settles_35 (by decide) (fun _ => ?_) (fun q => absurd (hm) q)
        refine J_iconst (v := 0) hT dX9_settles_42 rfl ?_
        refine S_istore2 hT dX9_settles_43 rfl rfl ?_
        refine J_iload_n (i := 3) hT dX9_settles_44 rfl rfl ?_
        refine J_iload (i := 4) hT dX9_settles_45 rfl ?_
        refine J_bipush (v := 28) hT dX9_settles_47 rfl ?_
        refine J_icmp_lt (tgt := 57) hT dX9_settles_49 (by decide) (fun q49 => ?_) (fun q49 => ?_)
        · refine J_iconst (v := 0) hT dX9_settles_57 rfl ?_
          refine J_topil (y := if r < 12 then maskF σ1 else 0) ?_ ?_
          · first
              | (rw [if_neg (e28.mp q49)])
              | (rw [if_pos (Classical.not_not.mp (fun h => q49 (e28.mpr h)))])
          refine J_ior hT dX9_settles_58 ?_
          refine S_istore3 hT dX9_settles_59 rfl rfl ?_
          refine S_iinc4 hT dX9_settles_60 (nI_inc _) rfl ?_
          refine J_goto (tgt := 13) hT dX9_settles_63 (by decide) ?_
          refine J_L (L' := [_, _, _, _, _, none]) (zsub_keep (zsub_keep (zsub_keep (zsub_keep (zsub_keep (zsub_drop (zsub_refl _))))))) ?_
          exact stop g2 (zge_trans hg1 hg2)
        · refine J_iload (i := 5) hT dX9_settles_52 rfl ?_
          refine J_goto (tgt := 58) hT dX9_settles_54 (by decide) ?_
          refine J_topil (y := if r < 12 then maskF σ1 else 0) ?_ ?_
          · first
              | (rw [if_neg (e28.mp q49)])
              | (rw [if_pos (Classical.not_not.mp (fun h => q49 (e28.mpr h)))])
          refine J_ior hT dX9_settles_58 ?_
          refine S_istore3 hT dX9_settles_59 rfl rfl ?_
          refine S_iinc4 hT dX9_settles_60 (nI_inc _) rfl ?_
          refine J_goto (tgt := 13) hT dX9_settles_63 (by decide) ?_
          refine J_L (L' := [_, _, _, _, _, none]) (zsub_keep (zsub_keep (zsub_keep (zsub_keep (zsub_keep (zsub_drop (zsub_refl _))))))) ?_
          exact stop g2 (zge_trans hg1 hg2)
      · rw [blkF_1 late hm] at K
        dsimp only at K
        refine J_iload (i := 4) hT dX9_settles_13 rfl ?_
        refine J_bipush (v := 40) hT dX9_settles_15 rfl ?_
        refine J_icmp_ge (tgt := 66) hT dX9_settles_17 (by decide) (fun q => absurd q (Int32.not_le.mpr (nI_lt (a := nn) (b := 40) (by omega) (by decide)))) (fun _ => ?_)
        refine J_iload_n (i := 2) hT dX9_settles_20 rfl rfl ?_
        refine J_if_eq (tgt := 66) hT dX9_settles_21 (by decide) (fun q => absurd q (by decide)) (fun _ => ?_)
        refine J_aload_n (i := 0) hT dX9_settles_24 rfl rfl ?_
        refine J_callV (ci := 9) hY dX9_settles_25 mfX9_round miX9_round msX9_round kX9_249 ⟨by decide, rfl⟩ (rk hS) (c_X9_round hZ hS hR1) rfl (by decide) rfl rfl (Nat.le_of_ble_eq_true rfl) (Nat.le_refl _) (Nat.le_refl _) (fun r1 μ1 hq1 => ?_)
        obtain ⟨rfl, g2, rfl, hg2⟩ := hq1
        refine S_istore5 hT dX9_settles_28 rfl ?_
        refine S_iinc1 hT dX9_settles_30 (nI_inc _) rfl ?_
        refine J_iload (i := 5) hT dX9_settles_33 rfl ?_
        refine J_if_eq (tgt := 42) hT dX9_settles_35 (by decide) (fun q => absurd q (hm)) (fun _ => ?_)
        refine J_iconst (v := 1) hT dX9_settles_38 rfl ?_
        refine J_goto (tgt := 43) hT dX9_settles_39 (by decide) ?_
        refine S_istore2 hT dX9_settles_43 rfl rfl ?_
        refine J_iload_n (i := 3) hT dX9_settles_44 rfl rfl ?_
        refine J_iload (i := 4) hT dX9_settles_45 rfl ?_
        refine J_bipush (v := 28) hT dX9_settles_47 rfl ?_
        refine J_icmp_lt (tgt := 57) hT dX9_settles_49 (by decide) (fun q49 => ?_) (fun q49 => ?_)
        · refine J_iconst (v := 0) hT dX9_settles_57 rfl ?_
          refine J_topil (y := if r < 12 then maskF σ1 else 0) ?_ ?_
          · first
              | (rw [if_neg (e28.mp q49)])
              | (rw [if_pos (Classical.not_not.mp (fun h => q49 (e28.mpr h)))])
          refine J_ior hT dX9_settles_58 ?_
          refine S_istore3 hT dX9_settles_59 rfl rfl ?_
          refine S_iinc4 hT dX9_settles_60 (nI_inc _) rfl ?_
          refine J_goto (tgt := 13) hT dX9_settles_63 (by decide) ?_
          refine J_L (L' := [_, _, _, _, _, none]) (zsub_keep (zsub_keep (zsub_keep (zsub_keep (zsub_keep (zsub_drop (zsub_refl _))))))) ?_
          refine ih (nn + 1) (roundF σ1) g2 (s + 1) _ (by omega) hR1.round (zge_trans hg1 hg2) (fun g3 n3 h1 h2 => ?_)
          have := K g3 n3 h1 h2
          rw [show s + ((blkF r (roundF σ1) (late ||| (if r < 12 then maskF σ1 else 0))).2.1 + 1) = s + 1 + (blkF r (roundF σ1) (late ||| (if r < 12 then maskF σ1 else 0))).2.1 by omega] at this
          exact this
        · refine J_iload (i := 5) hT dX9_settles_52 rfl ?_
          refine J_goto (tgt := 58) hT dX9_settles_54 (by decide) ?_
          refine J_topil (y := if r < 12 then maskF σ1 else 0) ?_ ?_
          · first
              | (rw [if_neg (e28.mp q49)])
              | (rw [if_pos (Classical.not_not.mp (fun h => q49 (e28.mpr h)))])
          refine J_ior hT dX9_settles_58 ?_
          refine S_istore3 hT dX9_settles_59 rfl rfl ?_
          refine S_iinc4 hT dX9_settles_60 (nI_inc _) rfl ?_
          refine J_goto (tgt := 13) hT dX9_settles_63 (by decide) ?_
          refine J_L (L' := [_, _, _, _, _, none]) (zsub_keep (zsub_keep (zsub_keep (zsub_keep (zsub_keep (zsub_drop (zsub_refl _))))))) ?_
          refine ih (nn + 1) (roundF σ1) g2 (s + 1) _ (by omega) hR1.round (zge_trans hg1 hg2) (fun g3 n3 h1 h2 => ?_)
          have := K g3 n3 h1 h2
          rw [show s + ((blkF r (roundF σ1) (late ||| (if r < 12 then maskF σ1 else 0))).2.1 + 1) = s + 1 + (blkF r (roundF σ1) (late ||| (if r < 12 then maskF σ1 else 0))).2.1 by omega] at this
          exact this
  have low : ∀ (F : State → Prop) σ1 g1 s late, (∃ k, k < 5 ∧ bt late k = true) → zJ τ F 88 [some (.ref 67), some (.int (nI s)), some (.int (zbi true)), some (.int late), some (.int (nI (lowN late))), none] [] (zA4 μ σ1 π g1) 0 0 → zJ τ F 73 [some (.ref 67), some (.int (nI s)), some (.int (zbi true)), some (.int late), some (.int (nI 0)), none] [] (zA4 μ σ1 π g1) 0 0 := by
    intro F σ1 g1 s late hex K
    obtain ⟨l5, lb, lz⟩ := lowN_ok hex
    have go : ∀ n j, j + n = lowN late → zJ τ F 73 [some (.ref 67), some (.int (nI s)), some (.int (zbi true)), some (.int late), some (.int (nI j)), none] [] (zA4 μ σ1 π g1) 0 0 := by
      intro n
      induction n with
      | zero =>
        intro j hj
        have e : j = lowN late := by omega
        rw [← e] at lb K
        refine J_iload_n (i := 3) hT dX9_settles_73 rfl rfl ?_
        refine J_iload (i := 4) hT dX9_settles_74 rfl ?_
        refine R_callS1 hY dX9_settles_76 mfX9_has mtX9_has kX9_197 (c_X9_has hZ (by omega)) rfl (by decide) rfl rfl (Nat.le_of_ble_eq_true rfl) (Nat.le_refl _) (Nat.le_refl _) ?_
        refine J_if_ne (tgt := 88) hT dX9_settles_79 (by decide) (fun _ => ?_) (fun q => absurd q (by rw [lb]; decide))
        exact K
      | succ n ih =>
        intro j hj
        have hz := lz j (by omega)
        refine J_iload_n (i := 3) hT dX9_settles_73 rfl rfl ?_
        refine J_iload (i := 4) hT dX9_settles_74 rfl ?_
        refine R_callS1 hY dX9_settles_76 mfX9_has mtX9_has kX9_197 (c_X9_has hZ (by omega)) rfl (by decide) rfl rfl (Nat.le_of_ble_eq_true rfl) (Nat.le_refl _) (Nat.le_refl _) ?_
        refine J_if_ne (tgt := 88) hT dX9_settles_79 (by decide) (fun q => absurd (by rw [hz]; rfl) q) (fun _ => ?_)
        refine S_iinc4 hT dX9_settles_82 (nI_inc _) rfl ?_
        refine J_goto (tgt := 73) hT dX9_settles_85 (by decide) ?_
        exact ih (j + 1) (by omega)
    exact go (lowN late) 0 (Nat.zero_add _)
  have outer : ∀ f σ1 g1 sm, RI σ1 → ncut σ1 < f → zge g g1 → (setF f σ1).1 = (setF 6 σ).1 → sm + (setF f σ1).2 = (setF 6 σ).2 → zJ τ (zFn τ (fun r μ' => r = some (.int (nI (setF 6 σ).2)) ∧ ∃ g', μ' = zA4 μ ((setF 6 σ).1) π g' ∧ zge g g') 0 0) 4 [some (.ref 67), some (.int (nI sm)), some (.int (zbi true)), none, none, none] [] (zA4 μ σ1 π g1) 0 0 := by
    intro f
    induction f with
    | zero => intro σ1 g1 sm _ h; omega
    | succ f ih =>
      intro σ1 g1 sm hR1 hf hg1 e1 e2
      obtain ⟨b1, b2, b3, b4⟩ := blkF_ok 40 σ1 0 hR1 (fun k _ hb => by rw [b_0] at hb; cases hb)
      have blk : zJ τ (zFn τ (fun r μ' => r = some (.int (nI (setF 6 σ).2)) ∧ ∃ g', μ' = zA4 μ ((setF 6 σ).1) π g' ∧ zge g g') 0 0) 13 [some (.ref 67), some (.int (nI sm)), some (.int (zbi true)), some (.int 0), some (.int (nI 0)), none] [] (zA4 μ σ1 π g1) 0 0 := by
        refine inner _ 40 0 σ1 g1 sm 0 rfl hR1 hg1 (fun g2 n2 hg2 hn2 => ?_)
        cases hch : (blkF 40 σ1 0).2.2.1 with
        | false =>
          rw [setF, if_pos hch] at e1 e2
          dsimp only at e1 e2
          refine J_iload_n (i := 2) hT dX9_settles_66 rfl rfl ?_
          refine J_if_eq (tgt := 111) hT dX9_settles_67 (by decide) (fun _ => ?_) (fun q => absurd (rfl) q)
          refine J_goto (tgt := 4) hT dX9_settles_111 (by decide) ?_
          refine J_iload_n (i := 2) hT dX9_settles_4 rfl rfl ?_
          refine J_if_eq (tgt := 114) hT dX9_settles_5 (by decide) (fun _ => ?_) (fun q => absurd (rfl) q)
          refine J_iload_n (i := 1) hT dX9_settles_114 rfl rfl ?_
          exact J_iret hT dX9_settles_115 rfl rfl (⟨by rw [← e2], g2, by rw [← e1], hg2⟩) (Nat.le_refl _) (Nat.le_refl _)
        | true =>
          have hex := b4 hch (Or.inl (by decide))
          obtain ⟨l5, lb, lz⟩ := lowN_ok hex
          have hl3 := (b3 _ (by omega) lb).2
          rw [setF, if_neg (by rw [hch]; decide)] at e1 e2
          dsimp only at e1 e2
          have hnc : ncut (cutF (blkF 40 σ1 0).1 (lowN (blkF 40 σ1 0).2.2.2)) < f := by
            have h1 := ncut_cut (σ := (blkF 40 σ1 0).1) l5 (fun q => hl3 ((b2 _).mp q))
            have h2 := ncut_eq b2
            omega
          have rest : zJ τ (zFn τ (fun r μ' => r = some (.int (nI (setF 6 σ).2)) ∧ ∃ g', μ' = zA4 μ ((setF 6 σ).1) π g' ∧ zge g g') 0 0) 88 [some (.ref 67), some (.int (nI (sm + (blkF 40 σ1 0).2.1))), some (.int (zbi true)), some (.int (blkF 40 σ1 0).2.2.2), some (.int (nI (lowN (blkF 40 σ1 0).2.2.2))), none] [] (zA4 μ (blkF 40 σ1 0).1 π g2) 0 0 := by
            generalize (blkF 40 σ1 0).2.2.2 = late at *
            generalize (blkF 40 σ1 0).1 = σ2 at *
            refine J_aload_n (i := 0) hT dX9_settles_88 rfl rfl ?_
            refine R_getP hT fX9_83 rfl dX9_settles_89 (rk hS) (rp_state hS) ?_
            refine J_iload (i := 4) hT dX9_settles_92 rfl ?_
            refine J_iconst (v := 3) hT dX9_settles_94 rfl ?_
            refine R_iast hT dX9_settles_95 (rk_state hS) (rl_state hS) (zix_nI l5 (by decide)) ?_
            refine J_aload_n (i := 0) hT dX9_settles_96 rfl rfl ?_
            refine R_getP hT fX9_92 rfl dX9_settles_97 (rk hS) (rp_load hS) ?_
            refine J_iload (i := 4) hT dX9_settles_100 rfl ?_
            refine J_iconst (v := 0) hT dX9_settles_102 rfl ?_
            refine R_iast hT dX9_settles_103 (rk_load hS) (rl_load hS) (zix_nI l5 (by decide)) ?_
            refine J_aload_n (i := 0) hT dX9_settles_104 rfl rfl ?_
            refine J_iload (i := 4) hT dX9_settles_105 rfl ?_
            refine J_iconst (v := 0) hT dX9_settles_107 rfl ?_
            refine R_callV0 (ci := 9) hY dX9_settles_108 mfX9_tells miX9_tells msX9_tells kX9_246 ⟨by decide, rfl⟩ (rk hS) (c_X9_tells hZ hS l5) rfl (by decide) rfl rfl (Nat.le_of_ble_eq_true rfl) (Nat.le_refl _) (Nat.le_refl _) ?_
            refine J_goto (tgt := 4) hT dX9_settles_111 (by decide) ?_
            refine J_L (L' := [_, _, _, none, none, none]) (zsub_keep (zsub_keep (zsub_keep (zsub_drop (zsub_drop (zsub_refl _)))))) ?_
            exact ih _ g2 _ (b1.cut _) hnc hg2 e1 ((Nat.add_assoc _ _ _).trans e2)
          refine J_iload_n (i := 2) hT dX9_settles_66 rfl rfl ?_
          refine J_if_eq (tgt := 111) hT dX9_settles_67 (by decide) (fun q => absurd q (by decide)) (fun _ => ?_)
          refine J_iconst (v := 0) hT dX9_settles_70 rfl ?_
          refine S_istore4 hT dX9_settles_71 rfl ?_
          exact low _ _ _ _ _ hex rest
      refine J_iload_n (i := 2) hT dX9_settles_4 rfl rfl ?_
      refine J_if_eq (tgt := 114) hT dX9_settles_5 (by decide) (fun q => absurd q (by decide)) (fun _ => ?_)
      refine J_iconst (v := 0) hT dX9_settles_8 rfl ?_
      refine S_istore3 hT dX9_settles_9 rfl rfl ?_
      refine J_iconst (v := 0) hT dX9_settles_10 rfl ?_
      refine S_istore4 hT dX9_settles_11 rfl ?_
      exact blk
  have h5 : ncut σ < 6 := by
    have := List.countP_le_length (p := fun k => decide (σ 92 k ≠ 3)) (l := List.range 5)
    rw [List.length_range] at this
    exact Nat.lt_succ_of_le this
  refine J_iconst (v := 0) hT dX9_settles_0 rfl ?_
  refine S_istore1 hT dX9_settles_1 rfl rfl ?_
  refine J_iconst (v := 1) hT dX9_settles_2 rfl ?_
  refine S_istore2 hT dX9_settles_3 rfl rfl ?_
  exact outer 6 σ g 0 hR h5 (zge_refl g) rfl (Nat.zero_add _)
