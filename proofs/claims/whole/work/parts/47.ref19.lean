set_option maxRecDepth 100000 in
set_option maxHeartbeats 4000000 in
theorem c_X9_readsAll {l : Launch} {Z : zZ} (hZ : zSt l Z) {μ : zMem} {σ : Nat → Nat → Int32} {π : Nat → Nat → Option Nat} {g : Nat → Nat → Int64} (hS : zRef μ π) {n : Nat} (hn : n ≤ 40) (hs : σ 67 42 = nI n) (hR : RI σ) (hV : ∀ k, k < n → stepV σ k) : zCt l Z mX9_readsAll 6 0 0 [.ref 67] (zA4 μ σ π g) (fun r μ' => r = none ∧ ∃ g', μ' = zA4 μ (raF σ n) π g' ∧ zge g g') := by
  refine zCt_of hZ mpX9_readsAll (Nat.le_of_ble_eq_true rfl) (L := [some (.ref 67), none]) rfl (fun τ hY => ?_)
  have hT := hY.1
  have loop : ∀ n1 i, i + n1 = n → ∀ g1, zge g g1 → zJ τ (zFn τ (fun r μ' => r = none ∧ ∃ g', μ' = zA4 μ (raF σ n) π g' ∧ zge g g') 0 0) 2 [some (.ref 67), some (.int (nI i))] [] (zA4 μ (raF σ i) π g1) 0 0 := by
    intro n1
    induction n1 with
    | zero =>
      intro i hi
      have : i = n := by omega
      subst this
      intro g1 hg1
      refine J_iload_n (i := 1) hT dX9_readsAll_2 rfl rfl ?_
      refine J_aload_n (i := 0) hT dX9_readsAll_3 rfl rfl ?_
      refine R_getI hT fX9_277 rfl dX9_readsAll_4 (rk hS) ?_
      refine J_topil ((zkf_m (raF_k σ i) 42 (by decide)).trans hs) ?_
      refine J_icmp_ge (tgt := 49) hT dX9_readsAll_7 (by decide) (fun _ => ?_) (fun q => absurd (nI_le (Nat.le_refl _) (by omega)) q)
      exact J_vret hT dX9_readsAll_49 rfl (⟨rfl, g1, rfl, hg1⟩) (Nat.le_refl _) (Nat.le_refl _)
    | succ n1 ih =>
      intro i hi
      intro g1 hg1
      have hRi := raF_ok hR i
      have hVi := stepV_mv (raF_k σ i) (hV i (by omega))
      by_cases h3 : raF σ i 98 i = 3
      · by_cases ht : raF σ i 102 i = raF σ i 67 34
        · have e1 : raF σ (i + 1) = (setF 6 (readF (raF σ i) (stC (raF σ i) i) (raF σ i 100 i))).1 := by simp only [raF]; rw [if_pos ⟨h3, ht⟩]
          have hc := stepV_c hVi h3
          refine J_iload_n (i := 1) hT dX9_readsAll_2 rfl rfl ?_
          refine J_aload_n (i := 0) hT dX9_readsAll_3 rfl rfl ?_
          refine R_getI hT fX9_277 rfl dX9_readsAll_4 (rk hS) ?_
          refine J_topil ((zkf_m (raF_k σ i) 42 (by decide)).trans hs) ?_
          refine J_icmp_ge (tgt := 49) hT dX9_readsAll_7 (by decide) (fun q => absurd q (Int32.not_le.mpr (nI_lt (a := i) (b := n) (by omega) (by omega)))) (fun _ => ?_)
          refine J_aload_n (i := 0) hT dX9_readsAll_10 rfl rfl ?_
          refine R_getP hT fX9_101 rfl dX9_readsAll_11 (rk hS) (rp_kind hS) ?_
          refine J_iload_n (i := 1) hT dX9_readsAll_14 rfl rfl ?_
          refine R_iald hT dX9_readsAll_15 (rk_kind hS) (rl_kind hS) (by first | exact ⟨rfl, by decide⟩ | exact zix_nI (by omega) (by decide) | assumption) ?_
          refine J_iconst (v := 3) hT dX9_readsAll_16 rfl ?_
          refine J_icmp_ne (tgt := 43) hT dX9_readsAll_17 (by decide) (fun q => absurd (h3) q) (fun _ => ?_)
          refine J_aload_n (i := 0) hT dX9_readsAll_20 rfl rfl ?_
          refine R_getP hT fX9_113 rfl dX9_readsAll_21 (rk hS) (rp_at hS) ?_
          refine J_iload_n (i := 1) hT dX9_readsAll_24 rfl rfl ?_
          refine R_iald hT dX9_readsAll_25 (rk_at hS) (rl_at hS) (by first | exact ⟨rfl, by decide⟩ | exact zix_nI (by omega) (by decide) | assumption) ?_
          refine J_aload_n (i := 0) hT dX9_readsAll_26 rfl rfl ?_
          refine R_getI hT fX9_218 rfl dX9_readsAll_27 (rk hS) ?_
          refine J_icmp_ne (tgt := 43) hT dX9_readsAll_30 (by decide) (fun q => absurd (ht) q) (fun _ => ?_)
          refine J_aload_n (i := 0) hT dX9_readsAll_33 rfl rfl ?_
          refine J_iload_n (i := 1) hT dX9_readsAll_34 rfl rfl ?_
          refine R_callV0 (ci := 9) hY dX9_readsAll_35 mfX9_reads miX9_reads msX9_reads kX9_271 ⟨by decide, rfl⟩ (rk hS) (c_X9_reads hZ hS (st := i) (by omega) hc.1 hc.2) rfl (by decide) rfl rfl (Nat.le_of_ble_eq_true rfl) (Nat.le_refl _) (Nat.le_refl _) ?_
          refine J_aload_n (i := 0) hT dX9_readsAll_38 rfl rfl ?_
          refine J_callV (ci := 9) hY dX9_readsAll_39 mfX9_settles miX9_settles msX9_settles kX9_265 ⟨by decide, rfl⟩ (rk hS) (c_X9_settles hZ hS (hRi.read _ _)) rfl (by decide) rfl rfl (Nat.le_of_ble_eq_true rfl) (Nat.le_refl _) (Nat.le_refl _) (fun r1 μ1 hq1 => ?_)
          obtain ⟨rfl, g2, rfl, hg2⟩ := hq1
          refine J_pop hT dX9_readsAll_42 rfl ?_
          refine S_iinc1 hT dX9_readsAll_43 (nI_inc _) rfl ?_
          refine J_goto (tgt := 2) hT dX9_readsAll_46 (by decide) ?_
          have := ih (i + 1) (by omega) g2 (zge_trans hg1 hg2)
          rw [e1] at this
          exact this
        · have e1 : raF σ (i + 1) = raF σ i := by simp only [raF]; rw [if_neg (fun q => ht q.2)]
          refine J_iload_n (i := 1) hT dX9_readsAll_2 rfl rfl ?_
          refine J_aload_n (i := 0) hT dX9_readsAll_3 rfl rfl ?_
          refine R_getI hT fX9_277 rfl dX9_readsAll_4 (rk hS) ?_
          refine J_topil ((zkf_m (raF_k σ i) 42 (by decide)).trans hs) ?_
          refine J_icmp_ge (tgt := 49) hT dX9_readsAll_7 (by decide) (fun q => absurd q (Int32.not_le.mpr (nI_lt (a := i) (b := n) (by omega) (by omega)))) (fun _ => ?_)
          refine J_aload_n (i := 0) hT dX9_readsAll_10 rfl rfl ?_
          refine R_getP hT fX9_101 rfl dX9_readsAll_11 (rk hS) (rp_kind hS) ?_
          refine J_iload_n (i := 1) hT dX9_readsAll_14 rfl rfl ?_
          refine R_iald hT dX9_readsAll_15 (rk_kind hS) (rl_kind hS) (by first | exact ⟨rfl, by decide⟩ | exact zix_nI (by omega) (by decide) | assumption) ?_
          refine J_iconst (v := 3) hT dX9_readsAll_16 rfl ?_
          refine J_icmp_ne (tgt := 43) hT dX9_readsAll_17 (by decide) (fun q => absurd (h3) q) (fun _ => ?_)
          refine J_aload_n (i := 0) hT dX9_readsAll_20 rfl rfl ?_
          refine R_getP hT fX9_113 rfl dX9_readsAll_21 (rk hS) (rp_at hS) ?_
          refine J_iload_n (i := 1) hT dX9_readsAll_24 rfl rfl ?_
          refine R_iald hT dX9_readsAll_25 (rk_at hS) (rl_at hS) (by first | exact ⟨rfl, by decide⟩ | exact zix_nI (by omega) (by decide) | assumption) ?_
          refine J_aload_n (i := 0) hT dX9_readsAll_26 rfl rfl ?_
          refine R_getI hT fX9_218 rfl dX9_readsAll_27 (rk hS) ?_
          refine J_icmp_ne (tgt := 43) hT dX9_readsAll_30 (by decide) (fun _ => ?_) (fun q => absurd q (ht))
          refine S_iinc1 hT dX9_readsAll_43 (nI_inc _) rfl ?_
          refine J_goto (tgt := 2) hT dX9_readsAll_46 (by decide) ?_
          have := ih (i + 1) (by omega) g1 hg1
          rw [e1] at this
          exact this
      · have e1 : raF σ (i + 1) = raF σ i := by simp only [raF]; rw [if_neg (fun q => h3 q.1)]
        refine J_iload_n (i := 1) hT dX9_readsAll_2 rfl rfl ?_
        refine J_aload_n (i := 0) hT dX9_readsAll_3 rfl rfl ?_
        refine R_getI hT fX9_277 rfl dX9_readsAll_4 (rk hS) ?_
        refine J_topil ((zkf_m (raF_k σ i) 42 (by decide)).trans hs) ?_
        refine J_icmp_ge (tgt := 49) hT dX9_readsAll_7 (by decide) (fun q => absurd q (Int32.not_le.mpr (nI_lt (a := i) (b := n) (by omega) (by omega)))) (fun _ => ?_)
        refine J_aload_n (i := 0) hT dX9_readsAll_10 rfl rfl ?_
        refine R_getP hT fX9_101 rfl dX9_readsAll_11 (rk hS) (rp_kind hS) ?_
        refine J_iload_n (i := 1) hT dX9_readsAll_14 rfl rfl ?_
        refine R_iald hT dX9_readsAll_15 (rk_kind hS) (rl_kind hS) (by first | exact ⟨rfl, by decide⟩ | exact zix_nI (by omega) (by decide) | assumption) ?_
        refine J_iconst (v := 3) hT dX9_readsAll_16 rfl ?_
        refine J_icmp_ne (tgt := 43) hT dX9_readsAll_17 (by decide) (fun _ => ?_) (fun q => absurd q (h3))
        refine S_iinc1 hT dX9_readsAll_43 (nI_inc _) rfl ?_
        refine J_goto (tgt := 2) hT dX9_readsAll_46 (by decide) ?_
        have := ih (i + 1) (by omega) g1 hg1
        rw [e1] at this
        exact this
  refine J_iconst (v := 0) hT dX9_readsAll_0 rfl ?_
  refine S_istore1 hT dX9_readsAll_1 rfl rfl ?_
  exact loop n 0 (Nat.zero_add _) g (zge_refl g)

set_option maxRecDepth 100000 in
set_option maxHeartbeats 4000000 in
theorem c_X9_trial_ok {l : Launch} {Z : zZ} (hZ : zSt l Z) {μ : zMem} {σ : Nat → Nat → Int32} {π : Nat → Nat → Option Nat} {g : Nat → Nat → Int64} (hS : zRef μ π) {n s E : Nat} (hV0 : RV n σ) (hs : s < 5) (hE : σ 67 34 = nI E) (hE2 : E ≤ 2000) {S : Nat → Nat → Int32} (hSd : S = zu σ 67 45 0) : zCt l Z mX9_trial 8 0 0 [.ref 67, .int (nI s)] (zA4 μ σ π g) (fun r μ' => r = some (.int (trF S E n 97 s)) ∧ ∃ g', μ' = zA4 μ (rpF (trF S E n) n) π g' ∧ zge g g') := by
  refine zCt_of hZ mpX9_trial (Nat.le_of_ble_eq_true rfl) (L := [some (.ref 67), some (.int (nI s)), none, none]) rfl (fun τ hY => ?_)
  have hT := hY.1
  have hV : RV n S := by rw [hSd]; exact hV0.m 45 0 (by decide)
  obtain ⟨hW, -⟩ := hV.trial E
  have hst : ∀ i, trL S E n i 67 42 = nI n := fun i => (zkf_m (trL_k S E n i) 42 (by decide)).trans hV.2.1
  have hvv : ∀ i, ∀ k, k < n → stepV (trL S E n i) k := fun i k hk => stepV_mv (trL_k S E n i) (hV.2.2.1 k hk)
  have hRi : ∀ i, RI (trL S E n i) := fun i => trL_ok hV.ri E n i
  have loop : ∀ n1 i, i + n1 = (E - (E - 23)) → ∀ g1, zge g g1 → zJ τ (zFn τ (fun r μ' => r = some (.int (trF S E n 97 s)) ∧ ∃ g', μ' = zA4 μ (rpF (trF S E n) n) π g' ∧ zge g g') 0 0) 47 [some (.ref 67), some (.int (nI s)), some (.int (nI E)), none] [] (zA4 μ (trL S E n i) π g1) 0 0 := by
    intro n1
    induction n1 with
    | zero =>
      intro i hi
      have : i = (E - (E - 23)) := by omega
      subst this
      intro g1 hg1
      refine J_aload_n (i := 0) hT dX9_trial_47 rfl rfl ?_
      refine R_getI hT fX9_218 rfl dX9_trial_48 (rk hS) ?_
      refine J_topil (trL_now E n (E - (E - 23))) ?_
      refine J_iload_n (i := 2) hT dX9_trial_51 rfl rfl ?_
      refine J_icmp_ge (tgt := 77) hT dX9_trial_52 (by decide) (fun _ => ?_) (fun q => absurd (nI_le (a := E) (b := E - 23 + (E - (E - 23))) (by omega) (by omega)) q)
      refine J_aload_n (i := 0) hT dX9_trial_77 rfl rfl ?_
      refine J_callV (ci := 9) hY dX9_trial_78 mfX9_readsAll miX9_readsAll msX9_readsAll kX9_308 ⟨by decide, rfl⟩ (rk hS) (c_X9_readsAll hZ hS (n := n) hV.1 (hst _) (hRi _) (hvv _)) rfl (by decide) rfl rfl (Nat.le_of_ble_eq_true rfl) (Nat.le_refl _) (Nat.le_refl _) (fun r1 μ1 hq1 => ?_)
      obtain ⟨rfl, g2, rfl, hg2⟩ := hq1
      refine J_aload_n (i := 0) hT dX9_trial_81 rfl rfl ?_
      refine R_getP hT fX9_98 rfl dX9_trial_82 (rk hS) (rp_starts hS) ?_
      refine J_iload_n (i := 1) hT dX9_trial_85 rfl rfl ?_
      refine R_iald hT dX9_trial_86 (rk_starts hS) (rl_starts hS) (by first | exact ⟨rfl, by decide⟩ | exact zix_nI (by omega) (by decide) | assumption) ?_
      refine S_istore3 hT dX9_trial_87 rfl rfl ?_
      refine J_aload_n (i := 0) hT dX9_trial_88 rfl rfl ?_
      refine J_callV (ci := 9) hY dX9_trial_89 mfX9_replays miX9_replays msX9_replays kX9_303 ⟨by decide, rfl⟩ (rk hS) (c_X9_replays hZ hS (σ := trF S E n) hW.1 hW.2.1 hW.2.2.2.1 hW.2.2.1 hW.2.2.2.2) rfl (by decide) rfl rfl (Nat.le_of_ble_eq_true rfl) (Nat.le_refl _) (Nat.le_refl _) (fun r1 μ1 hq1 => ?_)
      obtain ⟨rfl, g3, rfl, hg3⟩ := hq1
      refine J_iload_n (i := 3) hT dX9_trial_92 rfl rfl ?_
      exact J_iret hT dX9_trial_93 rfl rfl (⟨rfl, g3, rfl, zge_trans hg1 (zge_trans hg2 hg3)⟩) (Nat.le_refl _) (Nat.le_refl _)
    | succ n1 ih =>
      intro i hi
      intro g1 hg1
      refine J_aload_n (i := 0) hT dX9_trial_47 rfl rfl ?_
      refine R_getI hT fX9_218 rfl dX9_trial_48 (rk hS) ?_
      refine J_topil (trL_now E n i) ?_
      refine J_iload_n (i := 2) hT dX9_trial_51 rfl rfl ?_
      refine J_icmp_ge (tgt := 77) hT dX9_trial_52 (by decide) (fun q => absurd q (Int32.not_le.mpr (nI_lt (a := E - 23 + i) (b := E) (by omega) (by omega)))) (fun _ => ?_)
      refine J_aload_n (i := 0) hT dX9_trial_55 rfl rfl ?_
      refine J_callV (ci := 9) hY dX9_trial_56 mfX9_readsAll miX9_readsAll msX9_readsAll kX9_308 ⟨by decide, rfl⟩ (rk hS) (c_X9_readsAll hZ hS (n := n) hV.1 (hst i) (hRi i) (hvv i)) rfl (by decide) rfl rfl (Nat.le_of_ble_eq_true rfl) (Nat.le_refl _) (Nat.le_refl _) (fun r1 μ1 hq1 => ?_)
      obtain ⟨rfl, g2, rfl, hg2⟩ := hq1
      refine J_aload_n (i := 0) hT dX9_trial_59 rfl rfl ?_
      refine J_dup hT dX9_trial_60 rfl ?_
      refine R_getI hT fX9_218 rfl dX9_trial_61 (rk hS) ?_
      refine J_iconst (v := 1) hT dX9_trial_64 rfl ?_
      refine J_iadd hT dX9_trial_65 ?_
      refine R_putI hT fX9_218 rfl rfl dX9_trial_66 (rk hS) ?_
      refine J_aload_n (i := 0) hT dX9_trial_69 rfl rfl ?_
      refine J_callV (ci := 9) hY dX9_trial_70 mfX9_settles miX9_settles msX9_settles kX9_265 ⟨by decide, rfl⟩ (rk hS) (c_X9_settles hZ hS (σ := nowF (raF (trL S E n i) n)) ((raF_ok (hRi i) n).now _ _)) rfl (by decide) rfl rfl (Nat.le_of_ble_eq_true rfl) (Nat.le_refl _) (Nat.le_refl _) (fun r1 μ1 hq1 => ?_)
      obtain ⟨rfl, g3, rfl, hg3⟩ := hq1
      refine J_pop hT dX9_trial_73 rfl ?_
      refine J_goto (tgt := 47) hT dX9_trial_74 (by decide) ?_
      exact ih (i + 1) (by omega) g3 (zge_trans hg1 (zge_trans hg2 hg3))
  have mid : zJ τ (zFn τ (fun r μ' => r = some (.int (trF S E n 97 s)) ∧ ∃ g', μ' = zA4 μ (rpF (trF S E n) n) π g' ∧ zge g g') 0 0) 38 [some (.ref 67), some (.int (nI s)), some (.int (nI E)), none] [] (zA4 μ (zu S 67 34 (nI (E - 23))) π g) 0 0 := by
    refine J_aload_n (i := 0) hT dX9_trial_38 rfl rfl ?_
    refine R_callV0 (ci := 9) hY dX9_trial_39 mfX9_clears miX9_clears msX9_clears kX9_252 ⟨by decide, rfl⟩ (rk hS) (c_X9_clears hZ hS) rfl (by decide) rfl rfl (Nat.le_of_ble_eq_true rfl) (Nat.le_refl _) (Nat.le_refl _) ?_
    refine J_aload_n (i := 0) hT dX9_trial_42 rfl rfl ?_
    refine J_callV (ci := 9) hY dX9_trial_43 mfX9_settles miX9_settles msX9_settles kX9_265 ⟨by decide, rfl⟩ (rk hS) (c_X9_settles hZ hS (RI.clear (hV.ri.now _ _))) rfl (by decide) rfl rfl (Nat.le_of_ble_eq_true rfl) (Nat.le_refl _) (Nat.le_refl _) (fun r1 μ1 hq1 => ?_)
    obtain ⟨rfl, g2, rfl, hg2⟩ := hq1
    refine J_pop hT dX9_trial_46 rfl ?_
    exact loop (E - (E - 23)) 0 (Nat.zero_add _) g2 hg2
  subst hSd
  by_cases h23 : E < 23
  · have e : E - 23 = 0 := by omega
    rw [e] at mid
    refine J_aload_n (i := 0) hT dX9_trial_0 rfl rfl ?_
    refine J_iload_n (i := 1) hT dX9_trial_1 rfl rfl ?_
    refine R_callS1 hY dX9_trial_2 mfX9_isService mtX9_isService kX9_300 (c_X9_isService hZ) rfl (by decide) rfl rfl (Nat.le_of_ble_eq_true rfl) (Nat.le_refl _) (Nat.le_refl _) ?_
    refine J_topil (svc1 hs) ?_
    refine J_iconst (v := 1) hT dX9_trial_5 rfl ?_
    refine J_iconst (v := 1) hT dX9_trial_6 rfl ?_
    refine R_callV1 (ci := 9) hY dX9_trial_7 mfX9_goes miX9_goes msX9_goes kX9_150 ⟨by decide, rfl⟩ (rk hS) (c_X9_goes hZ hS) rfl (by decide) rfl rfl (Nat.le_of_ble_eq_true rfl) (Nat.le_refl _) (Nat.le_refl _) ?_
    rw [g111]
    refine J_topil (z00) ?_
    refine J_if_ne (tgt := 15) hT dX9_trial_10 (by decide) (fun _ => ?_) (fun q => absurd q (by decide))
    refine J_aload_n (i := 0) hT dX9_trial_15 rfl rfl ?_
    refine R_getI hT fX9_218 rfl dX9_trial_16 (rk hS) ?_
    refine J_topil ((show zu σ 67 45 0 67 34 = nI E by simp [zu, hE])) ?_
    refine S_istore2 hT dX9_trial_19 rfl rfl ?_
    refine J_aload_n (i := 0) hT dX9_trial_20 rfl rfl ?_
    refine J_iload_n (i := 2) hT dX9_trial_21 rfl rfl ?_
    refine J_bipush (v := 23) hT dX9_trial_22 rfl ?_
    refine J_icmp_ge (tgt := 31) hT dX9_trial_24 (by decide) (fun q => absurd q (Int32.not_le.mpr (nI_lt (a := E) (b := 23) h23 (by decide)))) (fun _ => ?_)
    refine J_iconst (v := 0) hT dX9_trial_27 rfl ?_
    refine J_goto (tgt := 35) hT dX9_trial_28 (by decide) ?_
    refine R_putI hT fX9_218 rfl rfl dX9_trial_35 (rk hS) ?_
    exact mid
  · refine J_aload_n (i := 0) hT dX9_trial_0 rfl rfl ?_
    refine J_iload_n (i := 1) hT dX9_trial_1 rfl rfl ?_
    refine R_callS1 hY dX9_trial_2 mfX9_isService mtX9_isService kX9_300 (c_X9_isService hZ) rfl (by decide) rfl rfl (Nat.le_of_ble_eq_true rfl) (Nat.le_refl _) (Nat.le_refl _) ?_
    refine J_topil (svc1 hs) ?_
    refine J_iconst (v := 1) hT dX9_trial_5 rfl ?_
    refine J_iconst (v := 1) hT dX9_trial_6 rfl ?_
    refine R_callV1 (ci := 9) hY dX9_trial_7 mfX9_goes miX9_goes msX9_goes kX9_150 ⟨by decide, rfl⟩ (rk hS) (c_X9_goes hZ hS) rfl (by decide) rfl rfl (Nat.le_of_ble_eq_true rfl) (Nat.le_refl _) (Nat.le_refl _) ?_
    rw [g111]
    refine J_topil (z00) ?_
    refine J_if_ne (tgt := 15) hT dX9_trial_10 (by decide) (fun _ => ?_) (fun q => absurd q (by decide))
    refine J_aload_n (i := 0) hT dX9_trial_15 rfl rfl ?_
    refine R_getI hT fX9_218 rfl dX9_trial_16 (rk hS) ?_
    refine J_topil ((show zu σ 67 45 0 67 34 = nI E by simp [zu, hE])) ?_
    refine S_istore2 hT dX9_trial_19 rfl rfl ?_
    refine J_aload_n (i := 0) hT dX9_trial_20 rfl rfl ?_
    refine J_iload_n (i := 2) hT dX9_trial_21 rfl rfl ?_
    refine J_bipush (v := 23) hT dX9_trial_22 rfl ?_
    refine J_icmp_ge (tgt := 31) hT dX9_trial_24 (by decide) (fun _ => ?_) (fun q => absurd (nI_le (a := 23) (b := E) (by omega) (by omega)) q)
    refine J_iload_n (i := 2) hT dX9_trial_31 rfl rfl ?_
    refine J_bipush (v := 23) hT dX9_trial_32 rfl ?_
    refine J_isub hT dX9_trial_34 ?_
    refine J_topil ((nI_sub (a := E) (b := 23) (by omega))) ?_
    refine R_putI hT fX9_218 rfl rfl dX9_trial_35 (rk hS) ?_
    exact mid

set_option maxRecDepth 100000 in
set_option maxHeartbeats 4000000 in
theorem c_X9_trial_no {l : Launch} {Z : zZ} (hZ : zSt l Z) {μ : zMem} {σ : Nat → Nat → Int32} {π : Nat → Nat → Option Nat} {g : Nat → Nat → Int64} (hS : zRef μ π) {a : Int32} (hb : svcB a = false) : zCt l Z mX9_trial 8 0 0 [.ref 67, .int a] (zA4 μ σ π g) (fun r μ' => r = some (.int 0) ∧ μ' = zA4 μ (zu σ 67 45 1) π g) := by
  refine zCt_of hZ mpX9_trial (Nat.le_of_ble_eq_true rfl) (L := [some (.ref 67), some (.int a), none, none]) rfl (fun τ hY => ?_)
  have hT := hY.1
  refine J_aload_n (i := 0) hT dX9_trial_0 rfl rfl ?_
  refine J_iload_n (i := 1) hT dX9_trial_1 rfl rfl ?_
  refine R_callS1 hY dX9_trial_2 mfX9_isService mtX9_isService kX9_300 (c_X9_isService hZ) rfl (by decide) rfl rfl (Nat.le_of_ble_eq_true rfl) (Nat.le_refl _) (Nat.le_refl _) ?_
  refine J_topil (svc0 hb) ?_
  refine J_iconst (v := 1) hT dX9_trial_5 rfl ?_
  refine J_iconst (v := 1) hT dX9_trial_6 rfl ?_
  refine R_callV1 (ci := 9) hY dX9_trial_7 mfX9_goes miX9_goes msX9_goes kX9_150 ⟨by decide, rfl⟩ (rk hS) (c_X9_goes hZ hS) rfl (by decide) rfl rfl (Nat.le_of_ble_eq_true rfl) (Nat.le_refl _) (Nat.le_refl _) ?_
  rw [g011]
  refine J_topil (z10) ?_
  refine J_if_ne (tgt := 15) hT dX9_trial_10 (by decide) (fun q => absurd (rfl) q) (fun _ => ?_)
  refine J_iconst (v := 0) hT dX9_trial_13 rfl ?_
  exact J_iret hT dX9_trial_14 rfl rfl (⟨rfl, rfl⟩) (Nat.le_refl _) (Nat.le_refl _)

set_option maxRecDepth 100000 in
set_option maxHeartbeats 4000000 in
theorem c_X9_isLoop_no {l : Launch} {Z : zZ} (hZ : zSt l Z) {μ : zMem} {σ : Nat → Nat → Int32} {π : Nat → Nat → Option Nat} {g : Nat → Nat → Int64} (hS : zRef μ π) {a : Int32} (hb : svcB a = false) : zCt l Z mX9_isLoop 3 0 0 [.ref 67, .int a] (zA4 μ σ π g) (fun r μ' => r = some (.int 0) ∧ μ' = zA4 μ (zu σ 67 45 1) π g) := by
  refine zCt_of hZ mpX9_isLoop (Nat.le_of_ble_eq_true rfl) (L := [some (.ref 67), some (.int a), none, none, none]) rfl (fun τ hY => ?_)
  have hT := hY.1
  refine J_aload_n (i := 0) hT dX9_isLoop_0 rfl rfl ?_
  refine J_iload_n (i := 1) hT dX9_isLoop_1 rfl rfl ?_
  refine R_callS1 hY dX9_isLoop_2 mfX9_isService mtX9_isService kX9_300 (c_X9_isService hZ) rfl (by decide) rfl rfl (Nat.le_of_ble_eq_true rfl) (Nat.le_refl _) (Nat.le_refl _) ?_
  refine J_topil (svc0 hb) ?_
  refine J_iconst (v := 1) hT dX9_isLoop_5 rfl ?_
  refine J_iconst (v := 1) hT dX9_isLoop_6 rfl ?_
  refine R_callV1 (ci := 9) hY dX9_isLoop_7 mfX9_goes miX9_goes msX9_goes kX9_150 ⟨by decide, rfl⟩ (rk hS) (c_X9_goes hZ hS) rfl (by decide) rfl rfl (Nat.le_of_ble_eq_true rfl) (Nat.le_refl _) (Nat.le_refl _) ?_
  rw [g011]
  refine J_topil (z10) ?_
  refine J_if_ne (tgt := 15) hT dX9_isLoop_10 (by decide) (fun q => absurd (rfl) q) (fun _ => ?_)
  refine J_iconst (v := 0) hT dX9_isLoop_13 rfl ?_
  exact J_iret hT dX9_isLoop_14 rfl rfl (⟨rfl, rfl⟩) (Nat.le_refl _) (Nat.le_refl _)

set_option maxRecDepth 100000 in
set_option maxHeartbeats 4000000 in
theorem c_X9_valueAnew_ok {l : Launch} {Z : zZ} (hZ : zSt l Z) {μ : zMem} {σ : Nat → Nat → Int32} {π : Nat → Nat → Option Nat} {g : Nat → Nat → Int64} (hS : zRef μ π) {c : Nat} (hc : c < 12) : zCt l Z mX9_valueAnew 3 0 0 [.ref 67, .int (nI c)] (zA4 μ σ π g) (fun r μ' => r = some (.int (σ 88 c)) ∧ μ' = zA4 μ (zu σ 67 45 0) π g) := by
  refine zCt_of hZ mpX9_valueAnew (Nat.le_of_ble_eq_true rfl) (L := [some (.ref 67), some (.int (nI c))]) rfl (fun τ hY => ?_)
  have hT := hY.1
  refine J_aload_n (i := 0) hT dX9_valueAnew_0 rfl rfl ?_
  refine J_iload_n (i := 1) hT dX9_valueAnew_1 rfl rfl ?_
  refine R_callV1 (ci := 9) hY dX9_valueAnew_2 mfX9_value miX9_value msX9_value kX9_306 ⟨by decide, rfl⟩ (rk hS) (c_X9_value_ok hZ hS hc) rfl (by decide) rfl rfl (Nat.le_of_ble_eq_true rfl) (Nat.le_refl _) (Nat.le_refl _) ?_
  exact J_iret hT dX9_valueAnew_5 rfl rfl (⟨rfl, rfl⟩) (Nat.le_refl _) (Nat.le_refl _)

set_option maxRecDepth 100000 in
set_option maxHeartbeats 4000000 in
theorem c_X9_valueAnew_no {l : Launch} {Z : zZ} (hZ : zSt l Z) {μ : zMem} {σ : Nat → Nat → Int32} {π : Nat → Nat → Option Nat} {g : Nat → Nat → Int64} (hS : zRef μ π) {a : Int32} (hb : cellB a = false) : zCt l Z mX9_valueAnew 3 0 0 [.ref 67, .int (a)] (zA4 μ σ π g) (fun r μ' => r = some (.int 0) ∧ μ' = zA4 μ (zu σ 67 45 1) π g) := by
  refine zCt_of hZ mpX9_valueAnew (Nat.le_of_ble_eq_true rfl) (L := [some (.ref 67), some (.int (a))]) rfl (fun τ hY => ?_)
  have hT := hY.1
  refine J_aload_n (i := 0) hT dX9_valueAnew_0 rfl rfl ?_
  refine J_iload_n (i := 1) hT dX9_valueAnew_1 rfl rfl ?_
  refine R_callV1 (ci := 9) hY dX9_valueAnew_2 mfX9_value miX9_value msX9_value kX9_306 ⟨by decide, rfl⟩ (rk hS) (c_X9_value_no hZ hS hb) rfl (by decide) rfl rfl (Nat.le_of_ble_eq_true rfl) (Nat.le_refl _) (Nat.le_refl _) ?_
  exact J_iret hT dX9_valueAnew_5 rfl rfl (⟨rfl, rfl⟩) (Nat.le_refl _) (Nat.le_refl _)

set_option maxRecDepth 100000 in
set_option maxHeartbeats 4000000 in
theorem c_X9_wipe {l : Launch} {Z : zZ} (hZ : zSt l Z) {μ : zMem} {σ : Nat → Nat → Int32} {π : Nat → Nat → Option Nat} {g : Nat → Nat → Int64} (hS : zRef μ π) : zCt l Z mX9_wipe 0 0 0 [.ref 67] (zA4 μ σ π g) (fun r μ' => r = some (.int (σ 67 1)) ∧ μ' = zA4 μ (zu (zu σ 67 45 0) 67 1 0) π g) := by
  refine zCt_of hZ mpX9_wipe (Nat.le_of_ble_eq_true rfl) (L := [some (.ref 67), none]) rfl (fun τ hY => ?_)
  have hT := hY.1
  refine J_aload_n (i := 0) hT dX9_wipe_0 rfl rfl ?_
  refine J_iconst (v := 0) hT dX9_wipe_1 rfl ?_
  refine R_putI hT fX9_129 rfl rfl dX9_wipe_2 (rk hS) ?_
  refine J_aload_n (i := 0) hT dX9_wipe_5 rfl rfl ?_
  refine R_getI hT fX9_147 rfl dX9_wipe_6 (rk hS) ?_
  refine S_istore1 hT dX9_wipe_9 rfl rfl ?_
  refine J_aload_n (i := 0) hT dX9_wipe_10 rfl rfl ?_
  refine J_iconst (v := 0) hT dX9_wipe_11 rfl ?_
  refine R_putI hT fX9_147 rfl rfl dX9_wipe_12 (rk hS) ?_
  refine J_iload_n (i := 1) hT dX9_wipe_15 rfl rfl ?_
  exact J_iret hT dX9_wipe_16 rfl rfl (⟨by simp [zu], rfl⟩) (Nat.le_refl _) (Nat.le_refl _)
