set_option maxRecDepth 100000 in
set_option maxHeartbeats 4000000 in
theorem c_X9_does {l : Launch} {Z : zZ} (hZ : zSt l Z) {μ : zMem} {σ : Nat → Nat → Int32} {π : Nat → Nat → Option Nat} {g : Nat → Nat → Int64} (hS : zRef μ π) {st : Nat} (hst : st < 40) (hR : RI σ) (hV : stepV σ st) (hC : σ 98 st ≠ 10 → RI (chgF σ st)) : zCt l Z mX9_does 6 0 0 [.ref 67, .int (nI st)] (zA4 μ σ π g) (fun r μ' => r = some (.int (nI (doF σ st).2)) ∧ ∃ g', μ' = zA4 μ ((doF σ st).1) π g' ∧ zge g g') := by
  refine zCt_of hZ mpX9_does (Nat.le_of_ble_eq_true rfl) (L := [some (.ref 67), some (.int (nI st)), none, none]) rfl (fun τ hY => ?_)
  have hT := hY.1
  by_cases h10 : σ 98 st = 10
  · have hdo : doF σ st = tickF σ (stC σ st) := by unfold doF; rw [if_pos h10]
    have hV2 : stC σ st ≤ 50 ∧ σ 99 st = nI (stC σ st) := by
      rcases hV with h | h | h | h
      · rcases h.1 with q | q | q <;> rw [q] at h10 <;> exact absurd h10 (by decide)
      · rw [h.1] at h10; exact absurd h10 (by decide)
      · obtain ⟨⟨k, h4, h9, hk⟩, _⟩ := h
        rw [hk] at h10
        exact absurd ((nI_eq (b := 10) (by omega) (by decide)).mp h10) (by omega)
      · exact ⟨h.2.1, h.2.2⟩
    obtain ⟨T, hT0⟩ : ∃ T, T = stC σ st := ⟨_, rfl⟩
    rw [← hT0] at hV2 hdo
    rw [hdo]
    have loop : ∀ n i, i + n = T → ∀ g1, zge g g1 → zJ τ (zFn τ (fun r μ' => r = some (.int (nI (tickF σ T).2)) ∧ ∃ g', μ' = zA4 μ ((tickF σ T).1) π g' ∧ zge g g') 0 0) 15 [some (.ref 67), some (.int (nI st)), some (.int (nI (tickF σ i).2)), some (.int (nI i))] [] (zA4 μ (tickF σ i).1 π g1) 0 0 := by
      intro n
      induction n with
      | zero =>
        intro i hi
        have : i = T := by omega
        subst this
        intro g1 hg1
        refine J_iload_n (i := 3) hT dX9_does_15 rfl rfl ?_
        refine J_aload_n (i := 0) hT dX9_does_16 rfl rfl ?_
        refine R_getP hT fX9_104 rfl dX9_does_17 (rk hS) (rp_first hS) ?_
        refine J_iload_n (i := 1) hT dX9_does_20 rfl rfl ?_
        refine R_iald hT dX9_does_21 (rk_first hS) (rl_first hS) (by first | exact ⟨rfl, by decide⟩ | exact zix_nI (by omega) (by decide) | assumption) ?_
        refine J_topil ((zkf_st (tickF_k σ i) 99 (by simp) st).trans hV2.2) ?_
        refine J_icmp_ge (tgt := 48) hT dX9_does_22 (by decide) (fun _ => ?_) (fun q => absurd (nI_le (Nat.le_refl _) (by omega)) q)
        refine J_iload_n (i := 2) hT dX9_does_48 rfl rfl ?_
        exact J_iret hT dX9_does_49 rfl rfl (⟨rfl, g1, rfl, hg1⟩) (Nat.le_refl _) (Nat.le_refl _)
      | succ n ih =>
        intro i hi
        intro g1 hg1
        refine J_iload_n (i := 3) hT dX9_does_15 rfl rfl ?_
        refine J_aload_n (i := 0) hT dX9_does_16 rfl rfl ?_
        refine R_getP hT fX9_104 rfl dX9_does_17 (rk hS) (rp_first hS) ?_
        refine J_iload_n (i := 1) hT dX9_does_20 rfl rfl ?_
        refine R_iald hT dX9_does_21 (rk_first hS) (rl_first hS) (by first | exact ⟨rfl, by decide⟩ | exact zix_nI (by omega) (by decide) | assumption) ?_
        refine J_topil ((zkf_st (tickF_k σ i) 99 (by simp) st).trans hV2.2) ?_
        refine J_icmp_ge (tgt := 48) hT dX9_does_22 (by decide) (fun q => absurd q (Int32.not_le.mpr (nI_lt (a := i) (b := T) (by omega) (by omega)))) (fun _ => ?_)
        refine J_aload_n (i := 0) hT dX9_does_25 rfl rfl ?_
        refine J_dup hT dX9_does_26 rfl ?_
        refine R_getI hT fX9_218 rfl dX9_does_27 (rk hS) ?_
        refine J_iconst (v := 1) hT dX9_does_30 rfl ?_
        refine J_iadd hT dX9_does_31 ?_
        refine R_putI hT fX9_218 rfl rfl dX9_does_32 (rk hS) ?_
        refine J_iload_n (i := 2) hT dX9_does_35 rfl rfl ?_
        refine J_aload_n (i := 0) hT dX9_does_36 rfl rfl ?_
        refine J_callV (ci := 9) hY dX9_does_37 mfX9_settles miX9_settles msX9_settles kX9_265 ⟨by decide, rfl⟩ (rk hS) (c_X9_settles hZ hS ((tickF_ok hR i).now _ _)) rfl (by decide) rfl rfl (Nat.le_of_ble_eq_true rfl) (Nat.le_refl _) (Nat.le_refl _) (fun r1 μ1 hq1 => ?_)
        obtain ⟨rfl, g2, rfl, hg2⟩ := hq1
        refine J_iadd hT dX9_does_40 ?_
        refine J_topil (nI_add _ _) ?_
        refine S_istore2 hT dX9_does_41 rfl rfl ?_
        refine S_iinc3 hT dX9_does_42 (nI_inc _) rfl ?_
        refine J_goto (tgt := 15) hT dX9_does_45 (by decide) ?_
        exact ih (i + 1) (by omega) g2 (zge_trans hg1 hg2)
    refine J_aload_n (i := 0) hT dX9_does_0 rfl rfl ?_
    refine R_getP hT fX9_101 rfl dX9_does_1 (rk hS) (rp_kind hS) ?_
    refine J_iload_n (i := 1) hT dX9_does_4 rfl rfl ?_
    refine R_iald hT dX9_does_5 (rk_kind hS) (rl_kind hS) (by first | exact ⟨rfl, by decide⟩ | exact zix_nI (by omega) (by decide) | assumption) ?_
    refine J_bipush (v := 10) hT dX9_does_6 rfl ?_
    refine J_icmp_ne (tgt := 50) hT dX9_does_8 (by decide) (fun q => absurd (h10) q) (fun _ => ?_)
    refine J_iconst (v := 0) hT dX9_does_11 rfl ?_
    refine S_istore2 hT dX9_does_12 rfl rfl ?_
    refine J_iconst (v := 0) hT dX9_does_13 rfl ?_
    refine S_istore3 hT dX9_does_14 rfl rfl ?_
    exact loop T 0 (Nat.zero_add _) g (zge_refl g)
  · have hdo : doF σ st = setF 6 (chgF σ st) := by unfold doF; rw [if_neg h10]
    have hRc := hC h10
    rw [hdo]
    have fin : ∀ σ', σ' = chgF σ st → zJ τ (zFn τ (fun r μ' => r = some (.int (nI (setF 6 (chgF σ st)).2)) ∧ ∃ g', μ' = zA4 μ ((setF 6 (chgF σ st)).1) π g' ∧ zge g g') 0 0) 91 [some (.ref 67), some (.int (nI st)), none, none] [] (zA4 μ σ' π g) 0 0 := by
      intro σ' e
      subst e
      refine J_aload_n (i := 0) hT dX9_does_91 rfl rfl ?_
      refine J_callV (ci := 9) hY dX9_does_92 mfX9_settles miX9_settles msX9_settles kX9_265 ⟨by decide, rfl⟩ (rk hS) (c_X9_settles hZ hS hRc) rfl (by decide) rfl rfl (Nat.le_of_ble_eq_true rfl) (Nat.le_refl _) (Nat.le_refl _) (fun r1 μ1 hq1 => ?_)
      obtain ⟨rfl, g2, rfl, hg2⟩ := hq1
      exact J_iret hT dX9_does_95 rfl rfl (⟨rfl, g2, rfl, hg2⟩) (Nat.le_refl _) (Nat.le_refl _)
    rcases hV with ⟨hk, h5, hf, hn⟩ | ⟨hk, h5, hf⟩ | ⟨⟨k, k4, k9, hk⟩, h5, hf⟩ | h
    · have hle : σ 98 st ≤ 2 := by rcases hk with q | q | q <;> rw [q] <;> decide
      refine J_aload_n (i := 0) hT dX9_does_0 rfl rfl ?_
      refine R_getP hT fX9_101 rfl dX9_does_1 (rk hS) (rp_kind hS) ?_
      refine J_iload_n (i := 1) hT dX9_does_4 rfl rfl ?_
      refine R_iald hT dX9_does_5 (rk_kind hS) (rl_kind hS) (by first | exact ⟨rfl, by decide⟩ | exact zix_nI (by omega) (by decide) | assumption) ?_
      refine J_bipush (v := 10) hT dX9_does_6 rfl ?_
      refine J_icmp_ne (tgt := 50) hT dX9_does_8 (by decide) (fun _ => ?_) (fun q => absurd q (h10))
      refine J_aload_n (i := 0) hT dX9_does_50 rfl rfl ?_
      refine R_getP hT fX9_101 rfl dX9_does_51 (rk hS) (rp_kind hS) ?_
      refine J_iload_n (i := 1) hT dX9_does_54 rfl rfl ?_
      refine R_iald hT dX9_does_55 (rk_kind hS) (rl_kind hS) (by first | exact ⟨rfl, by decide⟩ | exact zix_nI (by omega) (by decide) | assumption) ?_
      refine J_iconst (v := 2) hT dX9_does_56 rfl ?_
      refine J_icmp_gt (tgt := 68) hT dX9_does_57 (by decide) (fun q => absurd q (Int32.not_lt.mpr hle)) (fun _ => ?_)
      refine J_aload_n (i := 0) hT dX9_does_60 rfl rfl ?_
      refine J_iload_n (i := 1) hT dX9_does_61 rfl rfl ?_
      refine R_callV0 (ci := 9) hY dX9_does_62 mfX9_setsCell miX9_setsCell msX9_setsCell kX9_268 ⟨by decide, rfl⟩ (rk hS) (c_X9_setsCell hZ hS (n0 := stN σ st) h5 hst hf hn) rfl (by decide) rfl rfl (Nat.le_of_ble_eq_true rfl) (Nat.le_refl _) (Nat.le_refl _) ?_
      refine J_goto (tgt := 91) hT dX9_does_65 (by decide) ?_
      exact fin _ (by unfold chgF; rw [if_pos hle])
    · have hle : ¬ σ 98 st ≤ 2 := by rw [hk]; decide
      refine J_aload_n (i := 0) hT dX9_does_0 rfl rfl ?_
      refine R_getP hT fX9_101 rfl dX9_does_1 (rk hS) (rp_kind hS) ?_
      refine J_iload_n (i := 1) hT dX9_does_4 rfl rfl ?_
      refine R_iald hT dX9_does_5 (rk_kind hS) (rl_kind hS) (by first | exact ⟨rfl, by decide⟩ | exact zix_nI (by omega) (by decide) | assumption) ?_
      refine J_bipush (v := 10) hT dX9_does_6 rfl ?_
      refine J_icmp_ne (tgt := 50) hT dX9_does_8 (by decide) (fun _ => ?_) (fun q => absurd q (h10))
      refine J_aload_n (i := 0) hT dX9_does_50 rfl rfl ?_
      refine R_getP hT fX9_101 rfl dX9_does_51 (rk hS) (rp_kind hS) ?_
      refine J_iload_n (i := 1) hT dX9_does_54 rfl rfl ?_
      refine R_iald hT dX9_does_55 (rk_kind hS) (rl_kind hS) (by first | exact ⟨rfl, by decide⟩ | exact zix_nI (by omega) (by decide) | assumption) ?_
      refine J_iconst (v := 2) hT dX9_does_56 rfl ?_
      refine J_icmp_gt (tgt := 68) hT dX9_does_57 (by decide) (fun _ => ?_) (fun q => absurd (Int32.not_le.mp hle) q)
      refine J_aload_n (i := 0) hT dX9_does_68 rfl rfl ?_
      refine R_getP hT fX9_101 rfl dX9_does_69 (rk hS) (rp_kind hS) ?_
      refine J_iload_n (i := 1) hT dX9_does_72 rfl rfl ?_
      refine R_iald hT dX9_does_73 (rk_kind hS) (rl_kind hS) (by first | exact ⟨rfl, by decide⟩ | exact zix_nI (by omega) (by decide) | assumption) ?_
      refine J_iconst (v := 3) hT dX9_does_74 rfl ?_
      refine J_icmp_ne (tgt := 86) hT dX9_does_75 (by decide) (fun q => absurd (hk) q) (fun _ => ?_)
      refine J_aload_n (i := 0) hT dX9_does_78 rfl rfl ?_
      refine J_iload_n (i := 1) hT dX9_does_79 rfl rfl ?_
      refine R_callV0 (ci := 9) hY dX9_does_80 mfX9_reads miX9_reads msX9_reads kX9_271 ⟨by decide, rfl⟩ (rk hS) (c_X9_reads hZ hS hst h5 hf) rfl (by decide) rfl rfl (Nat.le_of_ble_eq_true rfl) (Nat.le_refl _) (Nat.le_refl _) ?_
      refine J_goto (tgt := 91) hT dX9_does_83 (by decide) ?_
      exact fin _ (by unfold chgF; rw [if_neg hle, if_pos hk])
    · have hle : ¬ σ 98 st ≤ 2 := by rw [hk]; exact Int32.not_le.mpr (nI_lt (a := 2) (by omega) (by omega))
      have h3 : ¬ σ 98 st = 3 := by rw [hk]; intro q; exact absurd ((nI_eq (b := 3) (by omega) (by decide)).mp q) (by omega)
      refine J_aload_n (i := 0) hT dX9_does_0 rfl rfl ?_
      refine R_getP hT fX9_101 rfl dX9_does_1 (rk hS) (rp_kind hS) ?_
      refine J_iload_n (i := 1) hT dX9_does_4 rfl rfl ?_
      refine R_iald hT dX9_does_5 (rk_kind hS) (rl_kind hS) (by first | exact ⟨rfl, by decide⟩ | exact zix_nI (by omega) (by decide) | assumption) ?_
      refine J_bipush (v := 10) hT dX9_does_6 rfl ?_
      refine J_icmp_ne (tgt := 50) hT dX9_does_8 (by decide) (fun _ => ?_) (fun q => absurd q (h10))
      refine J_aload_n (i := 0) hT dX9_does_50 rfl rfl ?_
      refine R_getP hT fX9_101 rfl dX9_does_51 (rk hS) (rp_kind hS) ?_
      refine J_iload_n (i := 1) hT dX9_does_54 rfl rfl ?_
      refine R_iald hT dX9_does_55 (rk_kind hS) (rl_kind hS) (by first | exact ⟨rfl, by decide⟩ | exact zix_nI (by omega) (by decide) | assumption) ?_
      refine J_iconst (v := 2) hT dX9_does_56 rfl ?_
      refine J_icmp_gt (tgt := 68) hT dX9_does_57 (by decide) (fun _ => ?_) (fun q => absurd (Int32.not_le.mp hle) q)
      refine J_aload_n (i := 0) hT dX9_does_68 rfl rfl ?_
      refine R_getP hT fX9_101 rfl dX9_does_69 (rk hS) (rp_kind hS) ?_
      refine J_iload_n (i := 1) hT dX9_does_72 rfl rfl ?_
      refine R_iald hT dX9_does_73 (rk_kind hS) (rl_kind hS) (by first | exact ⟨rfl, by decide⟩ | exact zix_nI (by omega) (by decide) | assumption) ?_
      refine J_iconst (v := 3) hT dX9_does_74 rfl ?_
      refine J_icmp_ne (tgt := 86) hT dX9_does_75 (by decide) (fun _ => ?_) (fun q => absurd q (h3))
      refine J_aload_n (i := 0) hT dX9_does_86 rfl rfl ?_
      refine J_iload_n (i := 1) hT dX9_does_87 rfl rfl ?_
      refine R_callV0 (ci := 9) hY dX9_does_88 mfX9_setsService miX9_setsService msX9_setsService kX9_274 ⟨by decide, rfl⟩ (rk hS) (c_X9_setsService hZ hS h5 hst hf) rfl (by decide) rfl rfl (Nat.le_of_ble_eq_true rfl) (Nat.le_refl _) (Nat.le_refl _) ?_
      exact fin _ (by unfold chgF; rw [if_neg hle, if_neg h3])
    · exact absurd h.1 h10

set_option maxRecDepth 100000 in
set_option maxHeartbeats 4000000 in
theorem c_X9_keeps {l : Launch} {Z : zZ} (hZ : zSt l Z) {μ : zMem} {σ : Nat → Nat → Int32} {π : Nat → Nat → Option Nat} {g : Nat → Nat → Int64} (hS : zRef μ π) {n : Nat} (hn : n < 40) (hs : σ 67 42 = nI n) {w a b c : Int32} (hR : RI σ) (hV : stepV (kpS σ n w a b c) n) (hC : kpS σ n w a b c 98 n ≠ 10 → RI (chgF (kpS σ n w a b c) n)) : zCt l Z mX9_keeps 7 0 0 [.ref 67, .int w, .int a, .int b, .int c] (zA4 μ σ π g) (fun r μ' => r = some (.int (nI (doF (kpS σ n w a b c) n).2)) ∧ ∃ g', μ' = zA4 μ ((doF (kpS σ n w a b c) n).1) π g' ∧ zge g g') := by
  refine zCt_of hZ mpX9_keeps (Nat.le_of_ble_eq_true rfl) (L := [some (.ref 67), some (.int w), some (.int a), some (.int b), some (.int c)]) rfl (fun τ hY => ?_)
  have hT := hY.1
  refine J_aload_n (i := 0) hT dX9_keeps_0 rfl rfl ?_
  refine R_getP hT fX9_101 rfl dX9_keeps_1 (rk hS) (rp_kind hS) ?_
  refine J_aload_n (i := 0) hT dX9_keeps_4 rfl rfl ?_
  refine R_getI hT fX9_277 rfl dX9_keeps_5 (rk hS) ?_
  refine J_topil (hs) ?_
  refine J_iload_n (i := 1) hT dX9_keeps_8 rfl rfl ?_
  refine R_iast hT dX9_keeps_9 (rk_kind hS) (rl_kind hS) (zix_nI hn (by decide)) ?_
  refine J_aload_n (i := 0) hT dX9_keeps_10 rfl rfl ?_
  refine R_getP hT fX9_104 rfl dX9_keeps_11 (rk hS) (rp_first hS) ?_
  refine J_aload_n (i := 0) hT dX9_keeps_14 rfl rfl ?_
  refine R_getI hT fX9_277 rfl dX9_keeps_15 (rk hS) ?_
  refine J_topil ((zu_ne _ _ _ _ (by decide) _).trans hs) ?_
  refine J_iload_n (i := 2) hT dX9_keeps_18 rfl rfl ?_
  refine R_iast hT dX9_keeps_19 (rk_first hS) (rl_first hS) (zix_nI hn (by decide)) ?_
  refine J_aload_n (i := 0) hT dX9_keeps_20 rfl rfl ?_
  refine R_getP hT fX9_107 rfl dX9_keeps_21 (rk hS) (rp_second hS) ?_
  refine J_aload_n (i := 0) hT dX9_keeps_24 rfl rfl ?_
  refine R_getI hT fX9_277 rfl dX9_keeps_25 (rk hS) ?_
  refine J_topil ((zu_ne _ _ _ _ (by decide) _).trans ((zu_ne _ _ _ _ (by decide) _).trans hs)) ?_
  refine J_iload_n (i := 3) hT dX9_keeps_28 rfl rfl ?_
  refine R_iast hT dX9_keeps_29 (rk_second hS) (rl_second hS) (zix_nI hn (by decide)) ?_
  refine J_aload_n (i := 0) hT dX9_keeps_30 rfl rfl ?_
  refine R_getP hT fX9_110 rfl dX9_keeps_31 (rk hS) (rp_third hS) ?_
  refine J_aload_n (i := 0) hT dX9_keeps_34 rfl rfl ?_
  refine R_getI hT fX9_277 rfl dX9_keeps_35 (rk hS) ?_
  refine J_topil ((show _ = nI n by simp [zu, hs])) ?_
  refine J_iload (i := 4) hT dX9_keeps_38 rfl ?_
  refine R_iast hT dX9_keeps_40 (rk_third hS) (rl_third hS) (zix_nI hn (by decide)) ?_
  refine J_aload_n (i := 0) hT dX9_keeps_41 rfl rfl ?_
  refine R_getP hT fX9_113 rfl dX9_keeps_42 (rk hS) (rp_at hS) ?_
  refine J_aload_n (i := 0) hT dX9_keeps_45 rfl rfl ?_
  refine R_getI hT fX9_277 rfl dX9_keeps_46 (rk hS) ?_
  refine J_topil ((show _ = nI n by simp [zu, hs])) ?_
  refine J_aload_n (i := 0) hT dX9_keeps_49 rfl rfl ?_
  refine R_getI hT fX9_218 rfl dX9_keeps_50 (rk hS) ?_
  refine J_topil ((show _ = σ 67 34 by simp [zu])) ?_
  refine R_iast hT dX9_keeps_53 (rk_at hS) (rl_at hS) (zix_nI hn (by decide)) ?_
  refine J_aload_n (i := 0) hT dX9_keeps_54 rfl rfl ?_
  refine J_dup hT dX9_keeps_55 rfl ?_
  refine R_getI hT fX9_277 rfl dX9_keeps_56 (rk hS) ?_
  refine J_topil ((show _ = nI n by simp [zu, hs])) ?_
  refine J_iconst (v := 1) hT dX9_keeps_59 rfl ?_
  refine J_iadd hT dX9_keeps_60 ?_
  refine J_topil (nI_1 n) ?_
  refine R_putI hT fX9_277 rfl rfl dX9_keeps_61 (rk hS) ?_
  refine J_aload_n (i := 0) hT dX9_keeps_64 rfl rfl ?_
  refine J_aload_n (i := 0) hT dX9_keeps_65 rfl rfl ?_
  refine R_getI hT fX9_277 rfl dX9_keeps_66 (rk hS) ?_
  refine J_topil (zu_eq _ _ _ _) ?_
  refine J_iconst (v := 1) hT dX9_keeps_69 rfl ?_
  refine J_isub hT dX9_keeps_70 ?_
  refine J_topil (nI_pred n) ?_
  refine J_callV (ci := 9) hY dX9_keeps_71 mfX9_does miX9_does msX9_does kX9_280 ⟨by decide, rfl⟩ (rk hS) (c_X9_does hZ hS (σ := (kpS σ n w a b c)) hn (hR.kp n w a b c) hV hC) rfl (by decide) rfl rfl (Nat.le_of_ble_eq_true rfl) (Nat.le_refl _) (Nat.le_refl _) (fun r1 μ1 hq1 => ?_)
  obtain ⟨rfl, g2, rfl, hg2⟩ := hq1
  exact J_iret hT dX9_keeps_74 rfl rfl (⟨rfl, g2, rfl, hg2⟩) (Nat.le_refl _) (Nat.le_refl _)

set_option maxRecDepth 100000 in
set_option maxHeartbeats 4000000 in
theorem c_X9_replays {l : Launch} {Z : zZ} (hZ : zSt l Z) {μ : zMem} {σ : Nat → Nat → Int32} {π : Nat → Nat → Option Nat} {g : Nat → Nat → Int64} (hS : zRef μ π) {n : Nat} (hn : n ≤ 40) (hs : σ 67 42 = nI n) (hR : ∀ k, k ≤ n → RI (rpF σ k)) (hV : ∀ k, k < n → stepV σ k) (hC : ∀ k, k < n → σ 98 k ≠ 10 → RI (chgF (rpF σ k) k)) : zCt l Z mX9_replays 7 0 0 [.ref 67] (zA4 μ σ π g) (fun r μ' => r = none ∧ ∃ g', μ' = zA4 μ (rpF σ n) π g' ∧ zge g g') := by
  refine zCt_of hZ mpX9_replays (Nat.le_of_ble_eq_true rfl) (L := [some (.ref 67), none]) rfl (fun τ hY => ?_)
  have hT := hY.1
  have loop : ∀ n1 i, i + n1 = n → ∀ g1, zge g g1 → zJ τ (zFn τ (fun r μ' => r = none ∧ ∃ g', μ' = zA4 μ (rpF σ n) π g' ∧ zge g g') 0 0) 6 [some (.ref 67), some (.int (nI i))] [] (zA4 μ (rpF σ i) π g1) 0 0 := by
    intro n1
    induction n1 with
    | zero =>
      intro i hi
      have : i = n := by omega
      subst this
      intro g1 hg1
      refine J_iload_n (i := 1) hT dX9_replays_6 rfl rfl ?_
      refine J_aload_n (i := 0) hT dX9_replays_7 rfl rfl ?_
      refine R_getI hT fX9_277 rfl dX9_replays_8 (rk hS) ?_
      refine J_topil ((zkf_m (rpF_k σ i) 42 (by decide)).trans hs) ?_
      refine J_icmp_ge (tgt := 26) hT dX9_replays_11 (by decide) (fun _ => ?_) (fun q => absurd (nI_le (Nat.le_refl _) (by omega)) q)
      exact J_vret hT dX9_replays_26 rfl (⟨rfl, g1, rfl, hg1⟩) (Nat.le_refl _) (Nat.le_refl _)
    | succ n1 ih =>
      intro i hi
      intro g1 hg1
      have hk := zkf_st (rpF_k σ i) 98 (by simp) i
      refine J_iload_n (i := 1) hT dX9_replays_6 rfl rfl ?_
      refine J_aload_n (i := 0) hT dX9_replays_7 rfl rfl ?_
      refine R_getI hT fX9_277 rfl dX9_replays_8 (rk hS) ?_
      refine J_topil ((zkf_m (rpF_k σ i) 42 (by decide)).trans hs) ?_
      refine J_icmp_ge (tgt := 26) hT dX9_replays_11 (by decide) (fun q => absurd q (Int32.not_le.mpr (nI_lt (a := i) (b := n) (by omega) (by omega)))) (fun _ => ?_)
      refine J_aload_n (i := 0) hT dX9_replays_14 rfl rfl ?_
      refine J_iload_n (i := 1) hT dX9_replays_15 rfl rfl ?_
      refine J_callV (ci := 9) hY dX9_replays_16 mfX9_does miX9_does msX9_does kX9_280 ⟨by decide, rfl⟩ (rk hS) (c_X9_does hZ hS (st := i) (by omega) (hR i (by omega)) (stepV_mv (rpF_k σ i) (hV i (by omega))) (fun q => hC i (by omega) (by rw [← hk]; exact q))) rfl (by decide) rfl rfl (Nat.le_of_ble_eq_true rfl) (Nat.le_refl _) (Nat.le_refl _) (fun r1 μ1 hq1 => ?_)
      obtain ⟨rfl, g2, rfl, hg2⟩ := hq1
      refine J_pop hT dX9_replays_19 rfl ?_
      refine S_iinc1 hT dX9_replays_20 (nI_inc _) rfl ?_
      refine J_goto (tgt := 6) hT dX9_replays_23 (by decide) ?_
      exact ih (i + 1) (by omega) g2 (zge_trans hg1 hg2)
  refine J_aload_n (i := 0) hT dX9_replays_0 rfl rfl ?_
  refine R_callV0 (ci := 9) hY dX9_replays_1 mfX9_begins miX9_begins msX9_begins kX9_126 ⟨by decide, rfl⟩ (rk hS) (c_X9_begins hZ hS) rfl (by decide) rfl rfl (Nat.le_of_ble_eq_true rfl) (Nat.le_refl _) (Nat.le_refl _) ?_
  refine J_iconst (v := 0) hT dX9_replays_4 rfl ?_
  refine S_istore1 hT dX9_replays_5 rfl rfl ?_
  exact loop n 0 (Nat.zero_add _) g (zge_refl g)
