set_option maxRecDepth 100000 in
set_option maxHeartbeats 4000000 in
theorem c_X9_round {l : Launch} {Z : zZ} (hZ : zSt l Z) {μ : zMem} {σ : Nat → Nat → Int32} {π : Nat → Nat → Option Nat} {g : Nat → Nat → Int64} (hS : zRef μ π) (hR : RI σ) : zCt l Z mX9_round 4 0 0 [.ref 67] (zA4 μ σ π g) (fun r μ' => r = some (.int (maskF σ)) ∧ ∃ g', μ' = zA4 μ (roundF σ) π g' ∧ zge g g') := by
  refine zCt_of hZ mpX9_round (Nat.le_of_ble_eq_true rfl) (L := [some (.ref 67), none, none, none, none, none]) rfl (fun τ hY => ?_)
  have hT := hY.1
  have loop : ∀ n k, k + n = 5 → ∀ g1, zge g g1 → zJ τ (zFn τ (fun r μ' => r = some (.int (maskF σ)) ∧ ∃ g', μ' = zA4 μ (roundF σ) π g' ∧ zge g g') 0 0) 8 [some (.ref 67), some (.int (rdM (worksF σ) k)), some (.int (nI k)), none, none, none] [] (zA4 μ (rdP (worksF σ) k) π g1) 0 0 := by
    intro n
    induction n with
    | zero =>
      intro k hk
      have : k = 5 := by omega
      subst this
      intro g1 hg1
      refine J_iload_n (i := 2) hT dX9_round_8 rfl rfl ?_
      refine J_iconst (v := 5) hT dX9_round_9 rfl ?_
      refine J_icmp_ge (tgt := 149) hT dX9_round_10 (by decide) (fun _ => ?_) (fun q => absurd (nI_le (a := 5) (b := 5) (by decide) (by decide)) q)
      refine J_iload_n (i := 1) hT dX9_round_149 rfl rfl ?_
      exact J_iret hT dX9_round_150 rfl rfl (⟨by rfl, g1, rfl, hg1⟩) (Nat.le_refl _) (Nat.le_refl _)
    | succ n ih =>
      intro k hk
      intro g1 hg1
      have hk5 : k < 5 := by omega
      obtain ⟨S, hSd⟩ : ∃ S, S = rdP (worksF σ) k := ⟨_, rfl⟩
      have hSR : RI S := by rw [hSd]; exact hR.works.rd (by omega)
      have hctl := (hSR.2.2.1 k hk5).1
      have hRP : rdP (worksF σ) (k + 1) = rdS S k := by rw [hSd]; rfl
      have hMK : rdM (worksF σ) (k + 1) = rdM (worksF σ) k ||| (if chB S (rdS S k) k = true then (1 : Int32) <<< (nI k &&& 31) else 0) := by rw [hSd]; rfl
      rw [← hSd]
      have tail : zJ τ (zFn τ (fun r μ' => r = some (.int (maskF σ)) ∧ ∃ g', μ' = zA4 μ (roundF σ) π g' ∧ zge g g') 0 0) 101 [some (.ref 67), some (.int (rdM (worksF σ) k)), some (.int (nI k)), some (.int (S 92 k)), some (.int (S 95 k)), some (.int (S 96 k))] [] (zA4 μ (rdS S k) π g1) 0 0 := by
        refine J_iload_n (i := 1) hT dX9_round_101 rfl rfl ?_
        refine J_aload_n (i := 0) hT dX9_round_102 rfl rfl ?_
        refine R_getP hT fX9_83 rfl dX9_round_103 (rk hS) (rp_state hS) ?_
        refine J_iload_n (i := 2) hT dX9_round_106 rfl rfl ?_
        refine R_iald hT dX9_round_107 (rk_state hS) (rl_state hS) (by first | exact ⟨rfl, by decide⟩ | exact zix_nI (by omega) (by decide) | assumption) ?_
        refine J_iload_n (i := 3) hT dX9_round_108 rfl rfl ?_
        refine J_icmp_ne (tgt := 134) hT dX9_round_109 (by decide) (fun q109 => ?_) (fun q109 => ?_)
        · refine J_iconst (v := 1) hT dX9_round_134 rfl ?_
          refine J_iload_n (i := 2) hT dX9_round_135 rfl rfl ?_
          refine J_ishl hT dX9_round_136 ?_
          refine J_goto (tgt := 141) hT dX9_round_137 (by decide) ?_
          refine J_topil (y := if chB S (rdS S k) k = true then (1 : Int32) <<< (nI k &&& 31) else 0) ?_ ?_
          · clear hSd hRP hMK
            simp [chB, *]
          refine J_ior hT dX9_round_141 ?_
          refine S_istore1 hT dX9_round_142 rfl rfl ?_
          refine S_iinc2 hT dX9_round_143 (nI_inc _) rfl ?_
          refine J_goto (tgt := 8) hT dX9_round_146 (by decide) ?_
          rw [← hMK]
          refine J_L (L' := [_, _, _, none, none, none]) (zsub_keep (zsub_keep (zsub_keep (zsub_drop (zsub_drop (zsub_drop zsub_nil)))))) ?_
          have := ih (k + 1) (by omega) g1 hg1
          rw [hRP] at this
          exact this
        · refine J_aload_n (i := 0) hT dX9_round_112 rfl rfl ?_
          refine R_getP hT fX9_92 rfl dX9_round_113 (rk hS) (rp_load hS) ?_
          refine J_iload_n (i := 2) hT dX9_round_116 rfl rfl ?_
          refine R_iald hT dX9_round_117 (rk_load hS) (rl_load hS) (by first | exact ⟨rfl, by decide⟩ | exact zix_nI (by omega) (by decide) | assumption) ?_
          refine J_iload (i := 4) hT dX9_round_118 rfl ?_
          refine J_icmp_ne (tgt := 134) hT dX9_round_120 (by decide) (fun q120 => ?_) (fun q120 => ?_)
          · refine J_iconst (v := 1) hT dX9_round_134 rfl ?_
            refine J_iload_n (i := 2) hT dX9_round_135 rfl rfl ?_
            refine J_ishl hT dX9_round_136 ?_
            refine J_goto (tgt := 141) hT dX9_round_137 (by decide) ?_
            refine J_topil (y := if chB S (rdS S k) k = true then (1 : Int32) <<< (nI k &&& 31) else 0) ?_ ?_
            · clear hSd hRP hMK
              simp [chB, *]
            refine J_ior hT dX9_round_141 ?_
            refine S_istore1 hT dX9_round_142 rfl rfl ?_
            refine S_iinc2 hT dX9_round_143 (nI_inc _) rfl ?_
            refine J_goto (tgt := 8) hT dX9_round_146 (by decide) ?_
            rw [← hMK]
            refine J_L (L' := [_, _, _, none, none, none]) (zsub_keep (zsub_keep (zsub_keep (zsub_drop (zsub_drop (zsub_drop zsub_nil)))))) ?_
            have := ih (k + 1) (by omega) g1 hg1
            rw [hRP] at this
            exact this
          · refine J_aload_n (i := 0) hT dX9_round_123 rfl rfl ?_
            refine R_getP hT fX9_95 rfl dX9_round_124 (rk hS) (rp_told hS) ?_
            refine J_iload_n (i := 2) hT dX9_round_127 rfl rfl ?_
            refine R_iald hT dX9_round_128 (rk_told hS) (rl_told hS) (by first | exact ⟨rfl, by decide⟩ | exact zix_nI (by omega) (by decide) | assumption) ?_
            refine J_iload (i := 5) hT dX9_round_129 rfl ?_
            refine J_icmp_eq (tgt := 140) hT dX9_round_131 (by decide) (fun q131 => ?_) (fun q131 => ?_)
            · refine J_iconst (v := 0) hT dX9_round_140 rfl ?_
              refine J_topil (y := if chB S (rdS S k) k = true then (1 : Int32) <<< (nI k &&& 31) else 0) ?_ ?_
              · clear hSd hRP hMK
                simp [chB, *]
              refine J_ior hT dX9_round_141 ?_
              refine S_istore1 hT dX9_round_142 rfl rfl ?_
              refine S_iinc2 hT dX9_round_143 (nI_inc _) rfl ?_
              refine J_goto (tgt := 8) hT dX9_round_146 (by decide) ?_
              rw [← hMK]
              refine J_L (L' := [_, _, _, none, none, none]) (zsub_keep (zsub_keep (zsub_keep (zsub_drop (zsub_drop (zsub_drop zsub_nil)))))) ?_
              have := ih (k + 1) (by omega) g1 hg1
              rw [hRP] at this
              exact this
            · refine J_iconst (v := 1) hT dX9_round_134 rfl ?_
              refine J_iload_n (i := 2) hT dX9_round_135 rfl rfl ?_
              refine J_ishl hT dX9_round_136 ?_
              refine J_goto (tgt := 141) hT dX9_round_137 (by decide) ?_
              refine J_topil (y := if chB S (rdS S k) k = true then (1 : Int32) <<< (nI k &&& 31) else 0) ?_ ?_
              · clear hSd hRP hMK
                simp [chB, *]
              refine J_ior hT dX9_round_141 ?_
              refine S_istore1 hT dX9_round_142 rfl rfl ?_
              refine S_iinc2 hT dX9_round_143 (nI_inc _) rfl ?_
              refine J_goto (tgt := 8) hT dX9_round_146 (by decide) ?_
              rw [← hMK]
              refine J_L (L' := [_, _, _, none, none, none]) (zsub_keep (zsub_keep (zsub_keep (zsub_drop (zsub_drop (zsub_drop zsub_nil)))))) ?_
              have := ih (k + 1) (by omega) g1 hg1
              rw [hRP] at this
              exact this
      have mid : zJ τ (zFn τ (fun r μ' => r = some (.int (maskF σ)) ∧ ∃ g', μ' = zA4 μ (roundF σ) π g' ∧ zge g g') 0 0) 51 [some (.ref 67), some (.int (rdM (worksF σ) k)), some (.int (nI k)), some (.int (S 92 k)), some (.int (S 95 k)), some (.int (S 96 k))] [] (zA4 μ (rdC S k) π g1) 0 0 := by
        have hlim : okC (rdC S k 83 k) := by rw [(rdC_v S k).at _ (by decide)]; exact (hSR.2.2.1 k hk5).2
        refine J_aload_n (i := 0) hT dX9_round_51 rfl rfl ?_
        refine R_getP hT fX9_92 rfl dX9_round_52 (rk hS) (rp_load hS) ?_
        refine J_iload_n (i := 2) hT dX9_round_55 rfl rfl ?_
        refine J_aload_n (i := 0) hT dX9_round_56 rfl rfl ?_
        refine J_iload_n (i := 2) hT dX9_round_57 rfl rfl ?_
        refine R_callV1 (ci := 9) hY dX9_round_58 mfX9_loadOf miX9_loadOf msX9_loadOf kX9_243 ⟨by decide, rfl⟩ (rk hS) (c_X9_loadOf hZ hS hk5 hlim) rfl (by decide) rfl rfl (Nat.le_of_ble_eq_true rfl) (Nat.le_refl _) (Nat.le_refl _) ?_
        refine R_iast hT dX9_round_61 (rk_load hS) (rl_load hS) (by first | exact ⟨rfl, by decide⟩ | exact zix_nI (by omega) (by decide) | assumption) ?_
        refine J_aload_n (i := 0) hT dX9_round_62 rfl rfl ?_
        refine J_iload_n (i := 2) hT dX9_round_63 rfl rfl ?_
        refine J_aload_n (i := 0) hT dX9_round_64 rfl rfl ?_
        refine R_getP hT fX9_68 rfl dX9_round_65 (rk hS) (rp_lie hS) ?_
        refine J_iload_n (i := 2) hT dX9_round_68 rfl rfl ?_
        refine R_iald hT dX9_round_69 (rk_lie hS) (rl_lie hS) (by first | exact ⟨rfl, by decide⟩ | exact zix_nI (by omega) (by decide) | assumption) ?_
        refine J_if_lt (tgt := 92) hT dX9_round_70 (by decide) (fun q70 => ?_) (fun q70 => ?_)
        · refine J_aload_n (i := 0) hT dX9_round_92 rfl rfl ?_
          refine R_getP hT fX9_92 rfl dX9_round_93 (rk hS) (rp_load hS) ?_
          refine J_iload_n (i := 2) hT dX9_round_96 rfl rfl ?_
          refine R_iald hT dX9_round_97 (rk_load hS) (rl_load hS) (by first | exact ⟨rfl, by decide⟩ | exact zix_nI (by omega) (by decide) | assumption) ?_
          refine J_topil (y := rdT (rdL (rdC S k) k) k) ?_ ?_
          · first
              | exact (if_pos ⟨Int32.not_lt.mp q70, q80⟩).symm
              | exact (if_neg (fun h => absurd h.1 (Int32.not_le.mpr q70))).symm
              | exact (if_neg (fun h => q80 h.2)).symm
          refine R_callV0 (ci := 9) hY dX9_round_98 mfX9_tells miX9_tells msX9_tells kX9_246 ⟨by decide, rfl⟩ (rk hS) (c_X9_tells hZ hS hk5) rfl (by decide) rfl rfl (Nat.le_of_ble_eq_true rfl) (Nat.le_refl _) (Nat.le_refl _) ?_
          exact tail
        · refine J_aload_n (i := 0) hT dX9_round_73 rfl rfl ?_
          refine R_getP hT fX9_83 rfl dX9_round_74 (rk hS) (rp_state hS) ?_
          refine J_iload_n (i := 2) hT dX9_round_77 rfl rfl ?_
          refine R_iald hT dX9_round_78 (rk_state hS) (rl_state hS) (by first | exact ⟨rfl, by decide⟩ | exact zix_nI (by omega) (by decide) | assumption) ?_
          refine J_iconst (v := 2) hT dX9_round_79 rfl ?_
          refine J_icmp_ne (tgt := 92) hT dX9_round_80 (by decide) (fun q80 => ?_) (fun q80 => ?_)
          · refine J_aload_n (i := 0) hT dX9_round_92 rfl rfl ?_
            refine R_getP hT fX9_92 rfl dX9_round_93 (rk hS) (rp_load hS) ?_
            refine J_iload_n (i := 2) hT dX9_round_96 rfl rfl ?_
            refine R_iald hT dX9_round_97 (rk_load hS) (rl_load hS) (by first | exact ⟨rfl, by decide⟩ | exact zix_nI (by omega) (by decide) | assumption) ?_
            refine J_topil (y := rdT (rdL (rdC S k) k) k) ?_ ?_
            · first
                | exact (if_pos ⟨Int32.not_lt.mp q70, q80⟩).symm
                | exact (if_neg (fun h => absurd h.1 (Int32.not_le.mpr q70))).symm
                | exact (if_neg (fun h => q80 h.2)).symm
            refine R_callV0 (ci := 9) hY dX9_round_98 mfX9_tells miX9_tells msX9_tells kX9_246 ⟨by decide, rfl⟩ (rk hS) (c_X9_tells hZ hS hk5) rfl (by decide) rfl rfl (Nat.le_of_ble_eq_true rfl) (Nat.le_refl _) (Nat.le_refl _) ?_
            exact tail
          · refine J_aload_n (i := 0) hT dX9_round_83 rfl rfl ?_
            refine R_getP hT fX9_68 rfl dX9_round_84 (rk hS) (rp_lie hS) ?_
            refine J_iload_n (i := 2) hT dX9_round_87 rfl rfl ?_
            refine R_iald hT dX9_round_88 (rk_lie hS) (rl_lie hS) (by first | exact ⟨rfl, by decide⟩ | exact zix_nI (by omega) (by decide) | assumption) ?_
            refine J_goto (tgt := 98) hT dX9_round_89 (by decide) ?_
            refine J_topil (y := rdT (rdL (rdC S k) k) k) ?_ ?_
            · first
                | exact (if_pos ⟨Int32.not_lt.mp q70, q80⟩).symm
                | exact (if_neg (fun h => absurd h.1 (Int32.not_le.mpr q70))).symm
                | exact (if_neg (fun h => q80 h.2)).symm
            refine R_callV0 (ci := 9) hY dX9_round_98 mfX9_tells miX9_tells msX9_tells kX9_246 ⟨by decide, rfl⟩ (rk hS) (c_X9_tells hZ hS hk5) rfl (by decide) rfl rfl (Nat.le_of_ble_eq_true rfl) (Nat.le_refl _) (Nat.le_refl _) ?_
            exact tail
      refine J_iload_n (i := 2) hT dX9_round_8 rfl rfl ?_
      refine J_iconst (v := 5) hT dX9_round_9 rfl ?_
      refine J_icmp_ge (tgt := 149) hT dX9_round_10 (by decide) (fun q => absurd q (Int32.not_le.mpr (nI_lt (a := k) (b := 5) (by omega) (by decide)))) (fun _ => ?_)
      refine J_aload_n (i := 0) hT dX9_round_13 rfl rfl ?_
      refine R_getP hT fX9_83 rfl dX9_round_14 (rk hS) (rp_state hS) ?_
      refine J_iload_n (i := 2) hT dX9_round_17 rfl rfl ?_
      refine R_iald hT dX9_round_18 (rk_state hS) (rl_state hS) (by first | exact ⟨rfl, by decide⟩ | exact zix_nI (by omega) (by decide) | assumption) ?_
      refine S_istore3 hT dX9_round_19 rfl rfl ?_
      refine J_aload_n (i := 0) hT dX9_round_20 rfl rfl ?_
      refine R_getP hT fX9_92 rfl dX9_round_21 (rk hS) (rp_load hS) ?_
      refine J_iload_n (i := 2) hT dX9_round_24 rfl rfl ?_
      refine R_iald hT dX9_round_25 (rk_load hS) (rl_load hS) (by first | exact ⟨rfl, by decide⟩ | exact zix_nI (by omega) (by decide) | assumption) ?_
      refine S_istore4 hT dX9_round_26 rfl ?_
      refine J_aload_n (i := 0) hT dX9_round_28 rfl rfl ?_
      refine R_getP hT fX9_95 rfl dX9_round_29 (rk hS) (rp_told hS) ?_
      refine J_iload_n (i := 2) hT dX9_round_32 rfl rfl ?_
      refine R_iald hT dX9_round_33 (rk_told hS) (rl_told hS) (by first | exact ⟨rfl, by decide⟩ | exact zix_nI (by omega) (by decide) | assumption) ?_
      refine S_istore5 hT dX9_round_34 rfl ?_
      refine J_aload_n (i := 0) hT dX9_round_36 rfl rfl ?_
      refine R_getP hT fX9_83 rfl dX9_round_37 (rk hS) (rp_state hS) ?_
      refine J_iload_n (i := 2) hT dX9_round_40 rfl rfl ?_
      refine R_iald hT dX9_round_41 (rk_state hS) (rl_state hS) (by first | exact ⟨rfl, by decide⟩ | exact zix_nI (by omega) (by decide) | assumption) ?_
      refine J_iconst (v := 3) hT dX9_round_42 rfl ?_
      refine J_icmp_eq (tgt := 51) hT dX9_round_43 (by decide) (fun q43 => ?_) (fun q43 => ?_)
      · refine J_mu (congrArg (fun s => zA4 μ s π g1) (a₂ := rdC S k) ?_) mid
        first
          | (exact (if_pos q43).symm)
          | (exact (if_neg q43).symm)
      · refine J_aload_n (i := 0) hT dX9_round_46 rfl rfl ?_
        refine J_iload_n (i := 2) hT dX9_round_47 rfl rfl ?_
        refine R_callV0 (ci := 9) hY dX9_round_48 mfX9_changes miX9_changes msX9_changes kX9_240 ⟨by decide, rfl⟩ (rk hS) (c_X9_changes hZ hS hk5 hctl) rfl (by decide) rfl rfl (Nat.le_of_ble_eq_true rfl) (Nat.le_refl _) (Nat.le_refl _) ?_
        refine J_mu (congrArg (fun s => zA4 μ s π g1) (a₂ := rdC S k) ?_) mid
        first
          | (exact (if_pos q43).symm)
          | (exact (if_neg q43).symm)
  refine J_aload_n (i := 0) hT dX9_round_0 rfl rfl ?_
  refine J_callV (ci := 9) hY dX9_round_1 mfX9_worksOut miX9_worksOut msX9_worksOut kX9_237 ⟨by decide, rfl⟩ (rk hS) (c_X9_worksOut hZ hS hR.2.1 hR.1) rfl (by decide) rfl rfl (Nat.le_of_ble_eq_true rfl) (Nat.le_refl _) (Nat.le_refl _) (fun r μ1 hq1 => ?_)
  obtain ⟨rfl, g2, rfl, hg2⟩ := hq1
  refine J_iconst (v := 0) hT dX9_round_4 rfl ?_
  refine S_istore1 hT dX9_round_5 rfl rfl ?_
  refine J_iconst (v := 0) hT dX9_round_6 rfl ?_
  refine S_istore2 hT dX9_round_7 rfl rfl ?_
  exact loop 5 0 rfl g2 hg2
