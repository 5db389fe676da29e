set_option maxRecDepth 100000 in
set_option maxHeartbeats 4000000 in
theorem c_X9_changes {l : Launch} {Z : zZ} (hZ : zSt l Z) {μ : zMem} {σ : Nat → Nat → Int32} {π : Nat → Nat → Option Nat} {g : Nat → Nat → Int64} (hS : zRef μ π) {s : Nat} (hs : s < 5) (hc : okC (σ 82 s)) : zCt l Z mX9_changes 3 0 0 [.ref 67, .int (nI s)] (zA4 μ σ π g) (fun r μ' => r = none ∧ μ' = zA4 μ (changeF σ s) π g) := by
  refine zCt_of hZ mpX9_changes (Nat.le_of_ble_eq_true rfl) (L := [some (.ref 67), some (.int (nI s))]) rfl (fun τ hY => ?_)
  have hT := hY.1
  have fin : ∀ σ', σ' = changeF σ s → zJ τ (zFn τ (fun r μ' => r = none ∧ μ' = zA4 μ (changeF σ s) π g) 0 0) 121 [some (.ref 67), some (.int (nI s))] [] (zA4 μ σ' π g) 0 0 := by
    intro σ' e
    subst e
    exact J_vret hT dX9_changes_121 rfl (⟨rfl, rfl⟩) (Nat.le_refl _) (Nat.le_refl _)
  refine J_aload_n (i := 0) hT dX9_changes_0 rfl rfl ?_
  refine J_iload_n (i := 1) hT dX9_changes_1 rfl rfl ?_
  refine R_callV1 (ci := 9) hY dX9_changes_2 mfX9_isWanted miX9_isWanted msX9_isWanted kX9_228 ⟨by decide, rfl⟩ (rk hS) (c_X9_isWanted hZ hS hs hc) rfl (by decide) rfl rfl (Nat.le_of_ble_eq_true rfl) (Nat.le_refl _) (Nat.le_refl _) ?_
  refine J_if_ne (tgt := 18) hT dX9_changes_5 (by decide) (fun q5 => ?_) (fun q5 => ?_)
  · have hw := zbi_ne.mp q5
    obtain ⟨c, hc12, hcc⟩ := wantC hc hw
    refine J_aload_n (i := 0) hT dX9_changes_18 rfl rfl ?_
    refine R_getP hT fX9_83 rfl dX9_changes_19 (rk hS) (rp_state hS) ?_
    refine J_iload_n (i := 1) hT dX9_changes_22 rfl rfl ?_
    refine R_iald hT dX9_changes_23 (rk_state hS) (rl_state hS) (by first | exact ⟨rfl, by decide⟩ | exact zix_nI (by omega) (by decide) | assumption) ?_
    refine J_if_ne (tgt := 86) hT dX9_changes_24 (by decide) (fun q24 => ?_) (fun q24 => ?_)
    · refine J_aload_n (i := 0) hT dX9_changes_86 rfl rfl ?_
      refine R_getP hT fX9_83 rfl dX9_changes_87 (rk hS) (rp_state hS) ?_
      refine J_iload_n (i := 1) hT dX9_changes_90 rfl rfl ?_
      refine R_iald hT dX9_changes_91 (rk_state hS) (rl_state hS) (by first | exact ⟨rfl, by decide⟩ | exact zix_nI (by omega) (by decide) | assumption) ?_
      refine J_iconst (v := 1) hT dX9_changes_92 rfl ?_
      refine J_icmp_ne (tgt := 121) hT dX9_changes_93 (by decide) (fun q93 => ?_) (fun q93 => ?_)
      · refine fin _ ?_
        clear fin
        unfold changeF runF
        simp only [ge_iff_le, gt_iff_lt, ← Int32.not_lt, Decidable.not_not, zbi_0, zbi_ne] at *
        first
          | (simp [changeF, runF, zu, nI_tn, *] at *; done)
          | (simp_all [changeF, runF, zu, nI_tn, -Int32.not_lt, -Int32.not_le]; done)
      · refine J_aload_n (i := 0) hT dX9_changes_96 rfl rfl ?_
        refine R_getI hT fX9_218 rfl dX9_changes_97 (rk hS) ?_
        refine J_aload_n (i := 0) hT dX9_changes_100 rfl rfl ?_
        refine R_getP hT fX9_86 rfl dX9_changes_101 (rk hS) (rp_since hS) ?_
        refine J_iload_n (i := 1) hT dX9_changes_104 rfl rfl ?_
        refine R_iald hT dX9_changes_105 (rk_since hS) (rl_since hS) (by first | exact ⟨rfl, by decide⟩ | exact zix_nI (by omega) (by decide) | assumption) ?_
        refine J_isub hT dX9_changes_106 ?_
        refine J_aload_n (i := 0) hT dX9_changes_107 rfl rfl ?_
        refine R_getP hT fX9_89 rfl dX9_changes_108 (rk hS) (rp_waits hS) ?_
        refine J_iload_n (i := 1) hT dX9_changes_111 rfl rfl ?_
        refine R_iald hT dX9_changes_112 (rk_waits hS) (rl_waits hS) (by first | exact ⟨rfl, by decide⟩ | exact zix_nI (by omega) (by decide) | assumption) ?_
        refine J_icmp_lt (tgt := 121) hT dX9_changes_113 (by decide) (fun q113 => ?_) (fun q113 => ?_)
        · refine fin _ ?_
          clear fin
          unfold changeF runF
          simp only [ge_iff_le, gt_iff_lt, ← Int32.not_lt, Decidable.not_not, zbi_0, zbi_ne] at *
          first
            | (simp [changeF, runF, zu, nI_tn, *] at *; done)
            | (simp_all [changeF, runF, zu, nI_tn, -Int32.not_lt, -Int32.not_le]; done)
        · refine J_aload_n (i := 0) hT dX9_changes_116 rfl rfl ?_
          refine J_iload_n (i := 1) hT dX9_changes_117 rfl rfl ?_
          refine R_callV0 (ci := 9) hY dX9_changes_118 mfX9_runs miX9_runs msX9_runs kX9_234 ⟨by decide, rfl⟩ (rk hS) (c_X9_runs hZ hS hs) rfl (by decide) rfl rfl (Nat.le_of_ble_eq_true rfl) (Nat.le_refl _) (Nat.le_refl _) ?_
          refine fin _ ?_
          clear fin
          unfold changeF runF
          simp only [ge_iff_le, gt_iff_lt, ← Int32.not_lt, Decidable.not_not, zbi_0, zbi_ne] at *
          first
            | (simp [changeF, runF, zu, nI_tn, *] at *; done)
            | (simp_all [changeF, runF, zu, nI_tn, -Int32.not_lt, -Int32.not_le]; done)
    · refine J_aload_n (i := 0) hT dX9_changes_27 rfl rfl ?_
      refine J_aload_n (i := 0) hT dX9_changes_28 rfl rfl ?_
      refine R_getP hT fX9_53 rfl dX9_changes_29 (rk hS) (rp_control hS) ?_
      refine J_iload_n (i := 1) hT dX9_changes_32 rfl rfl ?_
      refine R_iald hT dX9_changes_33 (rk_control hS) (rl_control hS) (by first | exact ⟨rfl, by decide⟩ | exact zix_nI (by omega) (by decide) | assumption) ?_
      refine J_topil (hcc) ?_
      refine R_callV1 (ci := 9) hY dX9_changes_34 mfX9_stale miX9_stale msX9_stale kX9_231 ⟨by decide, rfl⟩ (rk hS) (c_X9_stale hZ hS hc12) rfl (by decide) rfl rfl (Nat.le_of_ble_eq_true rfl) (Nat.le_refl _) (Nat.le_refl _) ?_
      refine J_if_ne (tgt := 86) hT dX9_changes_37 (by decide) (fun q37 => ?_) (fun q37 => ?_)
      · refine J_aload_n (i := 0) hT dX9_changes_86 rfl rfl ?_
        refine R_getP hT fX9_83 rfl dX9_changes_87 (rk hS) (rp_state hS) ?_
        refine J_iload_n (i := 1) hT dX9_changes_90 rfl rfl ?_
        refine R_iald hT dX9_changes_91 (rk_state hS) (rl_state hS) (by first | exact ⟨rfl, by decide⟩ | exact zix_nI (by omega) (by decide) | assumption) ?_
        refine J_iconst (v := 1) hT dX9_changes_92 rfl ?_
        refine J_icmp_ne (tgt := 121) hT dX9_changes_93 (by decide) (fun q93 => ?_) (fun q93 => ?_)
        · refine fin _ ?_
          clear fin
          unfold changeF runF
          simp only [ge_iff_le, gt_iff_lt, ← Int32.not_lt, Decidable.not_not, zbi_0, zbi_ne] at *
          first
            | (simp [changeF, runF, zu, nI_tn, *] at *; done)
            | (simp_all [changeF, runF, zu, nI_tn, -Int32.not_lt, -Int32.not_le]; done)
        · refine J_aload_n (i := 0) hT dX9_changes_96 rfl rfl ?_
          refine R_getI hT fX9_218 rfl dX9_changes_97 (rk hS) ?_
          refine J_aload_n (i := 0) hT dX9_changes_100 rfl rfl ?_
          refine R_getP hT fX9_86 rfl dX9_changes_101 (rk hS) (rp_since hS) ?_
          refine J_iload_n (i := 1) hT dX9_changes_104 rfl rfl ?_
          refine R_iald hT dX9_changes_105 (rk_since hS) (rl_since hS) (by first | exact ⟨rfl, by decide⟩ | exact zix_nI (by omega) (by decide) | assumption) ?_
          refine J_isub hT dX9_changes_106 ?_
          refine J_aload_n (i := 0) hT dX9_changes_107 rfl rfl ?_
          refine R_getP hT fX9_89 rfl dX9_changes_108 (rk hS) (rp_waits hS) ?_
          refine J_iload_n (i := 1) hT dX9_changes_111 rfl rfl ?_
          refine R_iald hT dX9_changes_112 (rk_waits hS) (rl_waits hS) (by first | exact ⟨rfl, by decide⟩ | exact zix_nI (by omega) (by decide) | assumption) ?_
          refine J_icmp_lt (tgt := 121) hT dX9_changes_113 (by decide) (fun q113 => ?_) (fun q113 => ?_)
          · refine fin _ ?_
            clear fin
            unfold changeF runF
            simp only [ge_iff_le, gt_iff_lt, ← Int32.not_lt, Decidable.not_not, zbi_0, zbi_ne] at *
            first
              | (simp [changeF, runF, zu, nI_tn, *] at *; done)
              | (simp_all [changeF, runF, zu, nI_tn, -Int32.not_lt, -Int32.not_le]; done)
          · refine J_aload_n (i := 0) hT dX9_changes_116 rfl rfl ?_
            refine J_iload_n (i := 1) hT dX9_changes_117 rfl rfl ?_
            refine R_callV0 (ci := 9) hY dX9_changes_118 mfX9_runs miX9_runs msX9_runs kX9_234 ⟨by decide, rfl⟩ (rk hS) (c_X9_runs hZ hS hs) rfl (by decide) rfl rfl (Nat.le_of_ble_eq_true rfl) (Nat.le_refl _) (Nat.le_refl _) ?_
            refine fin _ ?_
            clear fin
            unfold changeF runF
            simp only [ge_iff_le, gt_iff_lt, ← Int32.not_lt, Decidable.not_not, zbi_0, zbi_ne] at *
            first
              | (simp [changeF, runF, zu, nI_tn, *] at *; done)
              | (simp_all [changeF, runF, zu, nI_tn, -Int32.not_lt, -Int32.not_le]; done)
      · refine J_aload_n (i := 0) hT dX9_changes_40 rfl rfl ?_
        refine R_getP hT fX9_86 rfl dX9_changes_41 (rk hS) (rp_since hS) ?_
        refine J_iload_n (i := 1) hT dX9_changes_44 rfl rfl ?_
        refine J_aload_n (i := 0) hT dX9_changes_45 rfl rfl ?_
        refine R_getI hT fX9_218 rfl dX9_changes_46 (rk hS) ?_
        refine R_iast hT dX9_changes_49 (rk_since hS) (rl_since hS) (by first | exact ⟨rfl, by decide⟩ | exact zix_nI (by omega) (by decide) | assumption) ?_
        refine J_aload_n (i := 0) hT dX9_changes_50 rfl rfl ?_
        refine R_getP hT fX9_89 rfl dX9_changes_51 (rk hS) (rp_waits hS) ?_
        refine J_iload_n (i := 1) hT dX9_changes_54 rfl rfl ?_
        refine J_aload_n (i := 0) hT dX9_changes_55 rfl rfl ?_
        refine R_getP hT fX9_65 rfl dX9_changes_56 (rk hS) (rp_delay hS) ?_
        refine J_iload_n (i := 1) hT dX9_changes_59 rfl rfl ?_
        refine R_iald hT dX9_changes_60 (rk_delay hS) (rl_delay hS) (by first | exact ⟨rfl, by decide⟩ | exact zix_nI (by omega) (by decide) | assumption) ?_
        refine R_iast hT dX9_changes_61 (rk_waits hS) (rl_waits hS) (by first | exact ⟨rfl, by decide⟩ | exact zix_nI (by omega) (by decide) | assumption) ?_
        refine J_aload_n (i := 0) hT dX9_changes_62 rfl rfl ?_
        refine R_getP hT fX9_83 rfl dX9_changes_63 (rk hS) (rp_state hS) ?_
        refine J_iload_n (i := 1) hT dX9_changes_66 rfl rfl ?_
        refine J_iconst (v := 1) hT dX9_changes_67 rfl ?_
        refine R_iast hT dX9_changes_68 (rk_state hS) (rl_state hS) (by first | exact ⟨rfl, by decide⟩ | exact zix_nI (by omega) (by decide) | assumption) ?_
        refine J_aload_n (i := 0) hT dX9_changes_69 rfl rfl ?_
        refine R_getP hT fX9_65 rfl dX9_changes_70 (rk hS) (rp_delay hS) ?_
        refine J_iload_n (i := 1) hT dX9_changes_73 rfl rfl ?_
        refine R_iald hT dX9_changes_74 (rk_delay hS) (rl_delay hS) (by first | exact ⟨rfl, by decide⟩ | exact zix_nI (by omega) (by decide) | assumption) ?_
        refine J_if_ne (tgt := 121) hT dX9_changes_75 (by decide) (fun q75 => ?_) (fun q75 => ?_)
        · refine fin _ ?_
          clear fin
          unfold changeF runF
          simp only [ge_iff_le, gt_iff_lt, ← Int32.not_lt, Decidable.not_not, zbi_0, zbi_ne] at *
          first
            | (simp [changeF, runF, zu, nI_tn, *] at *; done)
            | (simp_all [changeF, runF, zu, nI_tn, -Int32.not_lt, -Int32.not_le]; done)
        · refine J_aload_n (i := 0) hT dX9_changes_78 rfl rfl ?_
          refine J_iload_n (i := 1) hT dX9_changes_79 rfl rfl ?_
          refine R_callV0 (ci := 9) hY dX9_changes_80 mfX9_runs miX9_runs msX9_runs kX9_234 ⟨by decide, rfl⟩ (rk hS) (c_X9_runs hZ hS hs) rfl (by decide) rfl rfl (Nat.le_of_ble_eq_true rfl) (Nat.le_refl _) (Nat.le_refl _) ?_
          refine J_goto (tgt := 121) hT dX9_changes_83 (by decide) ?_
          refine fin _ ?_
          clear fin
          unfold changeF runF
          simp only [ge_iff_le, gt_iff_lt, ← Int32.not_lt, Decidable.not_not, zbi_0, zbi_ne] at *
          first
            | (simp [changeF, runF, zu, nI_tn, *] at *; done)
            | (simp_all [changeF, runF, zu, nI_tn, -Int32.not_lt, -Int32.not_le]; done)
  · refine J_aload_n (i := 0) hT dX9_changes_8 rfl rfl ?_
    refine R_getP hT fX9_83 rfl dX9_changes_9 (rk hS) (rp_state hS) ?_
    refine J_iload_n (i := 1) hT dX9_changes_12 rfl rfl ?_
    refine J_iconst (v := 0) hT dX9_changes_13 rfl ?_
    refine R_iast hT dX9_changes_14 (rk_state hS) (rl_state hS) (by first | exact ⟨rfl, by decide⟩ | exact zix_nI (by omega) (by decide) | assumption) ?_
    refine J_goto (tgt := 121) hT dX9_changes_15 (by decide) ?_
    refine fin _ ?_
    clear fin
    unfold changeF runF
    simp only [ge_iff_le, gt_iff_lt, ← Int32.not_lt, Decidable.not_not, zbi_0, zbi_ne] at *
    first
      | (simp [changeF, runF, zu, nI_tn, *] at *; done)
      | (simp_all [changeF, runF, zu, nI_tn, -Int32.not_lt, -Int32.not_le]; done)

set_option maxRecDepth 100000 in
set_option maxHeartbeats 4000000 in
theorem c_X9_deepens {l : Launch} {Z : zZ} (hZ : zSt l Z) {μ : zMem} {σ : Nat → Nat → Int32} {π : Nat → Nat → Option Nat} {g : Nat → Nat → Int64} (hS : zRef μ π) : zCt l Z mX9_deepens 1 0 0 [.ref 67] (zA4 μ σ π g) (fun r μ' => r = none ∧ μ' = zA4 μ (dpR σ 12) π g) := by
  refine zCt_of hZ mpX9_deepens (Nat.le_of_ble_eq_true rfl) (L := [some (.ref 67), none, none, none, none]) rfl (fun τ hY => ?_)
  have hT := hY.1
  have loop : ∀ n i, i + n = 12 → zJ τ (zFn τ (fun r μ' => r = none ∧ μ' = zA4 μ (dpR σ 12) π g) 0 0) 2 [some (.ref 67), some (.int (nI i)), none, none, none] [] (zA4 μ (dpR σ i) π g) 0 0 := by
    intro n
    induction n with
    | zero =>
      intro i hi
      have : i = 12 := by omega
      subst this
      refine J_iload_n (i := 1) hT dX9_deepens_2 rfl rfl ?_
      refine J_bipush (v := 12) hT dX9_deepens_3 rfl ?_
      refine J_icmp_ge (tgt := 94) hT dX9_deepens_5 (by decide) (fun _ => ?_) (fun q => absurd (nI_le (a := 12) (b := 12) (by decide) (by decide)) q)
      exact J_vret hT dX9_deepens_94 rfl (⟨rfl, rfl⟩) (Nat.le_refl _) (Nat.le_refl _)
    | succ n ih =>
      intro i hi
      have mid : ∀ n2 k, k + n2 = 12 → zJ τ (zFn τ (fun r μ' => r = none ∧ μ' = zA4 μ (dpR σ 12) π g) 0 0) 10 [some (.ref 67), some (.int (nI i)), some (.int (nI k)), none, none] [] (zA4 μ (dpO (dpR σ i) k) π g) 0 0 := by
        intro n2
        induction n2 with
        | zero =>
          intro k hk
          have : k = 12 := by omega
          subst this
          refine J_iload_n (i := 2) hT dX9_deepens_10 rfl rfl ?_
          refine J_bipush (v := 12) hT dX9_deepens_11 rfl ?_
          refine J_icmp_ge (tgt := 88) hT dX9_deepens_13 (by decide) (fun _ => ?_) (fun q => absurd (nI_le (a := 12) (b := 12) (by decide) (by decide)) q)
          refine S_iinc1 hT dX9_deepens_88 (nI_inc _) rfl ?_
          refine J_goto (tgt := 2) hT dX9_deepens_91 (by decide) ?_
          refine J_L (L' := [_, _, none, none, none]) (zsub_keep (zsub_keep (zsub_drop (zsub_drop (zsub_drop (zsub_refl _)))))) ?_
          exact ih (i + 1) (by omega)
        | succ n2 ih2 =>
          intro k hk
          have inner : ∀ n3 o, o + n3 = 12 → zJ τ (zFn τ (fun r μ' => r = none ∧ μ' = zA4 μ (dpR σ 12) π g) 0 0) 21 [some (.ref 67), some (.int (nI i)), some (.int (nI k)), some (.int (dpI (dpO (dpR σ i) k) k o)), some (.int (nI o))] [] (zA4 μ (dpO (dpR σ i) k) π g) 0 0 := by
            intro n3
            induction n3 with
            | zero =>
              intro o ho
              have : o = 12 := by omega
              subst this
              refine J_iload (i := 4) hT dX9_deepens_21 rfl ?_
              refine J_bipush (v := 12) hT dX9_deepens_23 rfl ?_
              refine J_icmp_ge (tgt := 75) hT dX9_deepens_25 (by decide) (fun _ => ?_) (fun q => absurd (nI_le (a := 12) (b := 12) (by decide) (by decide)) q)
              refine J_aload_n (i := 0) hT dX9_deepens_75 rfl rfl ?_
              refine R_getP hT fX9_44 rfl dX9_deepens_76 (rk hS) (rp_depth hS) ?_
              refine J_iload_n (i := 2) hT dX9_deepens_79 rfl rfl ?_
              refine J_iload_n (i := 3) hT dX9_deepens_80 rfl rfl ?_
              refine R_iast hT dX9_deepens_81 (rk_depth hS) (rl_depth hS) (by first | exact ⟨rfl, by decide⟩ | exact zix_nI (by omega) (by decide) | assumption) ?_
              refine S_iinc2 hT dX9_deepens_82 (nI_inc _) rfl ?_
              refine J_goto (tgt := 10) hT dX9_deepens_85 (by decide) ?_
              refine J_L (L' := [_, _, _, none, none]) (zsub_keep (zsub_keep (zsub_keep (zsub_drop (zsub_drop (zsub_refl _)))))) ?_
              exact ih2 (k + 1) (by omega)
            | succ n3 ih3 =>
              intro o ho
              refine J_iload (i := 4) hT dX9_deepens_21 rfl ?_
              refine J_bipush (v := 12) hT dX9_deepens_23 rfl ?_
              refine J_icmp_ge (tgt := 75) hT dX9_deepens_25 (by decide) (fun q => absurd q (Int32.not_le.mpr (nI_lt (a := o) (b := 12) (by omega) (by decide)))) (fun _ => ?_)
              refine J_aload_n (i := 0) hT dX9_deepens_28 rfl rfl ?_
              refine R_getP hT fX9_35 rfl dX9_deepens_29 (rk hS) (rp_readsCells hS) ?_
              refine J_iload_n (i := 2) hT dX9_deepens_32 rfl rfl ?_
              refine R_iald hT dX9_deepens_33 (rk_readsCells hS) (rl_readsCells hS) (by first | exact ⟨rfl, by decide⟩ | exact zix_nI (by omega) (by decide) | assumption) ?_
              refine J_iload (i := 4) hT dX9_deepens_34 rfl ?_
              refine R_callS1 hY dX9_deepens_36 mfX9_has mtX9_has kX9_197 (c_X9_has hZ (by omega)) rfl (by decide) rfl rfl (Nat.le_of_ble_eq_true rfl) (Nat.le_refl _) (Nat.le_refl _) ?_
              refine J_if_eq (tgt := 67) hT dX9_deepens_39 (by decide) (fun q39 => ?_) (fun q39 => ?_)
              · refine J_iload_n (i := 3) hT dX9_deepens_67 rfl rfl ?_
                refine J_topil (y := dpI (dpO (dpR σ i) k) k (o + 1)) ?_ ?_
                · simp only [dpI, zbi_0, zbi_ne, ge_iff_le, gt_iff_lt, ← Int32.not_lt, Decidable.not_not] at *
                  simp_all [-Int32.not_lt, -Int32.not_le]
                refine S_istore3 hT dX9_deepens_68 rfl rfl ?_
                refine S_iinc4 hT dX9_deepens_69 (nI_inc _) rfl ?_
                refine J_goto (tgt := 21) hT dX9_deepens_72 (by decide) ?_
                exact ih3 (o + 1) (by omega)
              · refine J_aload_n (i := 0) hT dX9_deepens_42 rfl rfl ?_
                refine R_getP hT fX9_44 rfl dX9_deepens_43 (rk hS) (rp_depth hS) ?_
                refine J_iload (i := 4) hT dX9_deepens_46 rfl ?_
                refine R_iald hT dX9_deepens_48 (rk_depth hS) (rl_depth hS) (by first | exact ⟨rfl, by decide⟩ | exact zix_nI (by omega) (by decide) | assumption) ?_
                refine J_iconst (v := 1) hT dX9_deepens_49 rfl ?_
                refine J_iadd hT dX9_deepens_50 ?_
                refine J_iload_n (i := 3) hT dX9_deepens_51 rfl rfl ?_
                refine J_icmp_le (tgt := 67) hT dX9_deepens_52 (by decide) (fun q52 => ?_) (fun q52 => ?_)
                · refine J_iload_n (i := 3) hT dX9_deepens_67 rfl rfl ?_
                  refine J_topil (y := dpI (dpO (dpR σ i) k) k (o + 1)) ?_ ?_
                  · simp only [dpI, zbi_0, zbi_ne, ge_iff_le, gt_iff_lt, ← Int32.not_lt, Decidable.not_not] at *
                    simp_all [-Int32.not_lt, -Int32.not_le]
                  refine S_istore3 hT dX9_deepens_68 rfl rfl ?_
                  refine S_iinc4 hT dX9_deepens_69 (nI_inc _) rfl ?_
                  refine J_goto (tgt := 21) hT dX9_deepens_72 (by decide) ?_
                  exact ih3 (o + 1) (by omega)
                · refine J_aload_n (i := 0) hT dX9_deepens_55 rfl rfl ?_
                  refine R_getP hT fX9_44 rfl dX9_deepens_56 (rk hS) (rp_depth hS) ?_
                  refine J_iload (i := 4) hT dX9_deepens_59 rfl ?_
                  refine R_iald hT dX9_deepens_61 (rk_depth hS) (rl_depth hS) (by first | exact ⟨rfl, by decide⟩ | exact zix_nI (by omega) (by decide) | assumption) ?_
                  refine J_iconst (v := 1) hT dX9_deepens_62 rfl ?_
                  refine J_iadd hT dX9_deepens_63 ?_
                  refine J_goto (tgt := 68) hT dX9_deepens_64 (by decide) ?_
                  refine J_topil (y := dpI (dpO (dpR σ i) k) k (o + 1)) ?_ ?_
                  · simp only [dpI, zbi_0, zbi_ne, ge_iff_le, gt_iff_lt, ← Int32.not_lt, Decidable.not_not] at *
                    simp_all [-Int32.not_lt, -Int32.not_le]
                  refine S_istore3 hT dX9_deepens_68 rfl rfl ?_
                  refine S_iinc4 hT dX9_deepens_69 (nI_inc _) rfl ?_
                  refine J_goto (tgt := 21) hT dX9_deepens_72 (by decide) ?_
                  exact ih3 (o + 1) (by omega)
          refine J_iload_n (i := 2) hT dX9_deepens_10 rfl rfl ?_
          refine J_bipush (v := 12) hT dX9_deepens_11 rfl ?_
          refine J_icmp_ge (tgt := 88) hT dX9_deepens_13 (by decide) (fun q => absurd q (Int32.not_le.mpr (nI_lt (a := k) (b := 12) (by omega) (by decide)))) (fun _ => ?_)
          refine J_iconst (v := 0) hT dX9_deepens_16 rfl ?_
          refine S_istore3 hT dX9_deepens_17 rfl rfl ?_
          refine J_iconst (v := 0) hT dX9_deepens_18 rfl ?_
          refine S_istore4 hT dX9_deepens_19 rfl ?_
          exact inner 12 0 rfl
      refine J_iload_n (i := 1) hT dX9_deepens_2 rfl rfl ?_
      refine J_bipush (v := 12) hT dX9_deepens_3 rfl ?_
      refine J_icmp_ge (tgt := 94) hT dX9_deepens_5 (by decide) (fun q => absurd q (Int32.not_le.mpr (nI_lt (a := i) (b := 12) (by omega) (by decide)))) (fun _ => ?_)
      refine J_iconst (v := 0) hT dX9_deepens_8 rfl ?_
      refine S_istore2 hT dX9_deepens_9 rfl rfl ?_
      exact mid 12 0 rfl
  refine J_iconst (v := 0) hT dX9_deepens_0 rfl ?_
  refine S_istore1 hT dX9_deepens_1 rfl rfl ?_
  exact loop 12 0 rfl

set_option maxRecDepth 100000 in
set_option maxHeartbeats 4000000 in
theorem c_X9_reads {l : Launch} {Z : zZ} (hZ : zSt l Z) {μ : zMem} {σ : Nat → Nat → Int32} {π : Nat → Nat → Option Nat} {g : Nat → Nat → Int64} (hS : zRef μ π) {st w : Nat} (hst : st < 40) (hw : w < 5) (hf : σ 99 st = nI w) : zCt l Z mX9_reads 2 0 0 [.ref 67, .int (nI st)] (zA4 μ σ π g) (fun r μ' => r = none ∧ μ' = zA4 μ (readF σ w (σ 100 st)) π g) := by
  refine zCt_of hZ mpX9_reads (Nat.le_of_ble_eq_true rfl) (L := [some (.ref 67), some (.int (nI st)), none]) rfl (fun τ hY => ?_)
  have hT := hY.1
  refine J_aload_n (i := 0) hT dX9_reads_0 rfl rfl ?_
  refine R_getP hT fX9_104 rfl dX9_reads_1 (rk hS) (rp_first hS) ?_
  refine J_iload_n (i := 1) hT dX9_reads_4 rfl rfl ?_
  refine R_iald hT dX9_reads_5 (rk_first hS) (rl_first hS) (by first | exact ⟨rfl, by decide⟩ | exact zix_nI (by omega) (by decide) | assumption) ?_
  refine J_topil (hf) ?_
  refine S_istore2 hT dX9_reads_6 rfl rfl ?_
  refine J_aload_n (i := 0) hT dX9_reads_7 rfl rfl ?_
  refine R_getP hT fX9_80 rfl dX9_reads_8 (rk hS) (rp_toldAt hS) ?_
  refine J_iload_n (i := 2) hT dX9_reads_11 rfl rfl ?_
  refine J_aload_n (i := 0) hT dX9_reads_12 rfl rfl ?_
  refine R_getI hT fX9_218 rfl dX9_reads_13 (rk hS) ?_
  refine R_iast hT dX9_reads_16 (rk_toldAt hS) (rl_toldAt hS) (by first | exact ⟨rfl, by decide⟩ | exact zix_nI (by omega) (by decide) | assumption) ?_
  refine J_aload_n (i := 0) hT dX9_reads_17 rfl rfl ?_
  refine R_getP hT fX9_77 rfl dX9_reads_18 (rk hS) (rp_reading hS) ?_
  refine J_iload_n (i := 2) hT dX9_reads_21 rfl rfl ?_
  refine R_iald hT dX9_reads_22 (rk_reading hS) (rl_reading hS) (by first | exact ⟨rfl, by decide⟩ | exact zix_nI (by omega) (by decide) | assumption) ?_
  refine J_aload_n (i := 0) hT dX9_reads_23 rfl rfl ?_
  refine R_getP hT fX9_107 rfl dX9_reads_24 (rk hS) (rp_second hS) ?_
  refine J_iload_n (i := 1) hT dX9_reads_27 rfl rfl ?_
  refine R_iald hT dX9_reads_28 (rk_second hS) (rl_second hS) (by first | exact ⟨rfl, by decide⟩ | exact zix_nI (by omega) (by decide) | assumption) ?_
  refine J_icmp_eq (tgt := 53) hT dX9_reads_29 (by decide) (fun q29 => ?_) (fun q29 => ?_)
  · exact J_vret hT dX9_reads_53 rfl (⟨rfl, by simp_all [readF, zu]⟩) (Nat.le_refl _) (Nat.le_refl _)
  · refine J_aload_n (i := 0) hT dX9_reads_32 rfl rfl ?_
    refine R_getP hT fX9_77 rfl dX9_reads_33 (rk hS) (rp_reading hS) ?_
    refine J_iload_n (i := 2) hT dX9_reads_36 rfl rfl ?_
    refine J_aload_n (i := 0) hT dX9_reads_37 rfl rfl ?_
    refine R_getP hT fX9_107 rfl dX9_reads_38 (rk hS) (rp_second hS) ?_
    refine J_iload_n (i := 1) hT dX9_reads_41 rfl rfl ?_
    refine R_iald hT dX9_reads_42 (rk_second hS) (rl_second hS) (by first | exact ⟨rfl, by decide⟩ | exact zix_nI (by omega) (by decide) | assumption) ?_
    refine R_iast hT dX9_reads_43 (rk_reading hS) (rl_reading hS) (by first | exact ⟨rfl, by decide⟩ | exact zix_nI (by omega) (by decide) | assumption) ?_
    refine J_aload_n (i := 0) hT dX9_reads_44 rfl rfl ?_
    refine J_aload_n (i := 0) hT dX9_reads_45 rfl rfl ?_
    refine R_getP hT fX9_38 rfl dX9_reads_46 (rk hS) (rp_readsReadings hS) ?_
    refine J_iload_n (i := 2) hT dX9_reads_49 rfl rfl ?_
    refine R_callV0 (ci := 9) hY dX9_reads_50 mfX9_soils miX9_soils msX9_soils kX9_201 ⟨by decide, rfl⟩ (rk hS) (c_X9_soils hZ hS (ra := 77) (by omega) (rk_readsReadings hS) (rl_readsReadings hS) (by decide)) rfl (by decide) rfl rfl (Nat.le_of_ble_eq_true rfl) (Nat.le_refl _) (Nat.le_refl _) ?_
    exact J_vret hT dX9_reads_53 rfl (⟨rfl, by simp_all [readF, zu]⟩) (Nat.le_refl _) (Nat.le_refl _)

set_option maxRecDepth 100000 in
set_option maxHeartbeats 4000000 in
theorem c_X9_clears {l : Launch} {Z : zZ} (hZ : zSt l Z) {μ : zMem} {σ : Nat → Nat → Int32} {π : Nat → Nat → Option Nat} {g : Nat → Nat → Int64} (hS : zRef μ π) : zCt l Z mX9_clears 0 0 0 [.ref 67] (zA4 μ σ π g) (fun r μ' => r = none ∧ μ' = zA4 μ (clearF σ) π g) := by
  refine zCt_of hZ mpX9_clears (Nat.le_of_ble_eq_true rfl) (L := [some (.ref 67), none]) rfl (fun τ hY => ?_)
  have hT := hY.1
  have loop2 : ∀ n i, i + n = 5 → zJ τ (zFn τ (fun r μ' => r = none ∧ μ' = zA4 μ (clearF σ) π g) 0 0) 61 [some (.ref 67), some (.int (nI i))] [] (zA4 μ (clS (clP σ 12) i) π g) 0 0 := by
    intro n
    induction n with
    | zero =>
      intro i hi
      have : i = 5 := by omega
      subst this
      refine J_iload_n (i := 1) hT dX9_clears_61 rfl rfl ?_
      refine J_iconst (v := 5) hT dX9_clears_62 rfl ?_
      refine J_icmp_ge (tgt := 114) hT dX9_clears_63 (by decide) (fun _ => ?_) (fun q => absurd (nI_le (a := 5) (b := 5) (by decide) (by decide)) q)
      refine J_aload_n (i := 0) hT dX9_clears_114 rfl rfl ?_
      refine J_iconst (v := 0) hT dX9_clears_115 rfl ?_
      refine R_putI hT fX9_208 rfl rfl dX9_clears_116 (rk hS) ?_
      exact J_vret hT dX9_clears_119 rfl (⟨rfl, rfl⟩) (Nat.le_refl _) (Nat.le_refl _)
    | succ n ih =>
      intro i hi
      refine J_iload_n (i := 1) hT dX9_clears_61 rfl rfl ?_
      refine J_iconst (v := 5) hT dX9_clears_62 rfl ?_
      refine J_icmp_ge (tgt := 114) hT dX9_clears_63 (by decide) (fun q => absurd q (Int32.not_le.mpr (nI_lt (a := i) (b := 5) (by omega) (by decide)))) (fun _ => ?_)
      refine J_aload_n (i := 0) hT dX9_clears_66 rfl rfl ?_
      refine R_getP hT fX9_77 rfl dX9_clears_67 (rk hS) (rp_reading hS) ?_
      refine J_iload_n (i := 1) hT dX9_clears_70 rfl rfl ?_
      refine J_iconst (v := 0) hT dX9_clears_71 rfl ?_
      refine R_iast hT dX9_clears_72 (rk_reading hS) (rl_reading hS) (by first | exact ⟨rfl, by decide⟩ | exact zix_nI (by omega) (by decide) | assumption) ?_
      refine J_aload_n (i := 0) hT dX9_clears_73 rfl rfl ?_
      refine R_getP hT fX9_80 rfl dX9_clears_74 (rk hS) (rp_toldAt hS) ?_
      refine J_iload_n (i := 1) hT dX9_clears_77 rfl rfl ?_
      refine J_iconst (v := -1) hT dX9_clears_78 rfl ?_
      refine R_iast hT dX9_clears_79 (rk_toldAt hS) (rl_toldAt hS) (by first | exact ⟨rfl, by decide⟩ | exact zix_nI (by omega) (by decide) | assumption) ?_
      refine J_aload_n (i := 0) hT dX9_clears_80 rfl rfl ?_
      refine R_getP hT fX9_83 rfl dX9_clears_81 (rk hS) (rp_state hS) ?_
      refine J_iload_n (i := 1) hT dX9_clears_84 rfl rfl ?_
      refine J_iconst (v := 0) hT dX9_clears_85 rfl ?_
      refine R_iast hT dX9_clears_86 (rk_state hS) (rl_state hS) (by first | exact ⟨rfl, by decide⟩ | exact zix_nI (by omega) (by decide) | assumption) ?_
      refine J_aload_n (i := 0) hT dX9_clears_87 rfl rfl ?_
      refine R_getP hT fX9_92 rfl dX9_clears_88 (rk hS) (rp_load hS) ?_
      refine J_iload_n (i := 1) hT dX9_clears_91 rfl rfl ?_
      refine J_iconst (v := 0) hT dX9_clears_92 rfl ?_
      refine R_iast hT dX9_clears_93 (rk_load hS) (rl_load hS) (by first | exact ⟨rfl, by decide⟩ | exact zix_nI (by omega) (by decide) | assumption) ?_
      refine J_aload_n (i := 0) hT dX9_clears_94 rfl rfl ?_
      refine R_getP hT fX9_95 rfl dX9_clears_95 (rk hS) (rp_told hS) ?_
      refine J_iload_n (i := 1) hT dX9_clears_98 rfl rfl ?_
      refine J_iconst (v := 0) hT dX9_clears_99 rfl ?_
      refine R_iast hT dX9_clears_100 (rk_told hS) (rl_told hS) (by first | exact ⟨rfl, by decide⟩ | exact zix_nI (by omega) (by decide) | assumption) ?_
      refine J_aload_n (i := 0) hT dX9_clears_101 rfl rfl ?_
      refine R_getP hT fX9_98 rfl dX9_clears_102 (rk hS) (rp_starts hS) ?_
      refine J_iload_n (i := 1) hT dX9_clears_105 rfl rfl ?_
      refine J_iconst (v := 0) hT dX9_clears_106 rfl ?_
      refine R_iast hT dX9_clears_107 (rk_starts hS) (rl_starts hS) (by first | exact ⟨rfl, by decide⟩ | exact zix_nI (by omega) (by decide) | assumption) ?_
      refine S_iinc1 hT dX9_clears_108 (nI_inc _) rfl ?_
      refine J_goto (tgt := 61) hT dX9_clears_111 (by decide) ?_
      refine J_mu (congrArg (fun s => zA4 μ s π g) (clS_s (clP σ 12) i)) (ih (i + 1) (by omega))
  have loop : ∀ n i, i + n = 12 → zJ τ (zFn τ (fun r μ' => r = none ∧ μ' = zA4 μ (clearF σ) π g) 0 0) 2 [some (.ref 67), some (.int (nI i))] [] (zA4 μ (clP σ i) π g) 0 0 := by
    intro n
    induction n with
    | zero =>
      intro i hi
      have : i = 12 := by omega
      subst this
      refine J_iload_n (i := 1) hT dX9_clears_2 rfl rfl ?_
      refine J_bipush (v := 12) hT dX9_clears_3 rfl ?_
      refine J_icmp_ge (tgt := 59) hT dX9_clears_5 (by decide) (fun _ => ?_) (fun q => absurd (nI_le (a := 12) (b := 12) (by decide) (by decide)) q)
      refine J_iconst (v := 0) hT dX9_clears_59 rfl ?_
      refine S_istore1 hT dX9_clears_60 rfl rfl ?_
      refine J_mu (congrArg (fun s => zA4 μ s π g) (clS_0 (clP σ 12)).symm) ?_
      exact loop2 5 0 rfl
    | succ n ih =>
      intro i hi
      refine J_iload_n (i := 1) hT dX9_clears_2 rfl rfl ?_
      refine J_bipush (v := 12) hT dX9_clears_3 rfl ?_
      refine J_icmp_ge (tgt := 59) hT dX9_clears_5 (by decide) (fun q => absurd q (Int32.not_le.mpr (nI_lt (a := i) (b := 12) (by omega) (by decide)))) (fun _ => ?_)
      refine J_aload_n (i := 0) hT dX9_clears_8 rfl rfl ?_
      refine R_getP hT fX9_71 rfl dX9_clears_9 (rk hS) (rp_value hS) ?_
      refine J_iload_n (i := 1) hT dX9_clears_12 rfl rfl ?_
      refine J_aload_n (i := 0) hT dX9_clears_13 rfl rfl ?_
      refine R_getP hT fX9_47 rfl dX9_clears_14 (rk hS) (rp_isHeld hS) ?_
      refine J_iload_n (i := 1) hT dX9_clears_17 rfl rfl ?_
      refine R_zald hT dX9_clears_18 (rk_isHeld hS) (rl_isHeld hS) (by first | exact ⟨rfl, by decide⟩ | exact zix_nI (by omega) (by decide) | assumption) ?_
      refine J_topil (clP_held σ i i (by decide) (by decide)) ?_
      refine J_if_eq (tgt := 31) hT dX9_clears_19 (by decide) (fun q19 => ?_) (fun q19 => ?_)
      · refine J_iconst (v := 0) hT dX9_clears_31 rfl ?_
        refine R_iast hT dX9_clears_32 (rk_value hS) (rl_value hS) (by first | exact ⟨rfl, by decide⟩ | exact zix_nI (by omega) (by decide) | assumption) ?_
        refine J_aload_n (i := 0) hT dX9_clears_33 rfl rfl ?_
        refine R_getP hT fX9_74 rfl dX9_clears_34 (rk hS) (rp_isDirty hS) ?_
        refine J_iload_n (i := 1) hT dX9_clears_37 rfl rfl ?_
        refine J_aload_n (i := 0) hT dX9_clears_38 rfl rfl ?_
        refine R_getP hT fX9_47 rfl dX9_clears_39 (rk hS) (rp_isHeld hS) ?_
        refine J_iload_n (i := 1) hT dX9_clears_42 rfl rfl ?_
        refine R_zald hT dX9_clears_43 (rk_isHeld hS) (rl_isHeld hS) (by first | exact ⟨rfl, by decide⟩ | exact zix_nI (by omega) (by decide) | assumption) ?_
        refine J_topil ((zu_ne _ _ _ _ (by decide) i).trans (clP_held σ i i (by decide) (by decide))) ?_
        refine J_if_ne (tgt := 51) hT dX9_clears_44 (by decide) (fun q44 => ?_) (fun q44 => ?_)
        · refine J_iconst (v := 0) hT dX9_clears_51 rfl ?_
          refine R_zast hT dX9_clears_52 (rk_isDirty hS) (rl_isDirty hS) (by first | exact ⟨rfl, by decide⟩ | exact zix_nI (by omega) (by decide) | assumption) (by decide) ?_
          refine S_iinc1 hT dX9_clears_53 (nI_inc _) rfl ?_
          refine J_goto (tgt := 2) hT dX9_clears_56 (by decide) ?_
          refine J_mu (congrArg (fun s => zA4 μ s π g) (clP_s σ i ?_ ?_)) (ih (i + 1) (by omega))
          · simp_all
          · simp_all
        · refine J_iconst (v := 1) hT dX9_clears_47 rfl ?_
          refine J_goto (tgt := 52) hT dX9_clears_48 (by decide) ?_
          refine R_zast hT dX9_clears_52 (rk_isDirty hS) (rl_isDirty hS) (by first | exact ⟨rfl, by decide⟩ | exact zix_nI (by omega) (by decide) | assumption) (by decide) ?_
          refine S_iinc1 hT dX9_clears_53 (nI_inc _) rfl ?_
          refine J_goto (tgt := 2) hT dX9_clears_56 (by decide) ?_
          refine J_mu (congrArg (fun s => zA4 μ s π g) (clP_s σ i ?_ ?_)) (ih (i + 1) (by omega))
          · simp_all
          · simp_all
      · refine J_aload_n (i := 0) hT dX9_clears_22 rfl rfl ?_
        refine R_getP hT fX9_50 rfl dX9_clears_23 (rk hS) (rp_heldAt hS) ?_
        refine J_iload_n (i := 1) hT dX9_clears_26 rfl rfl ?_
        refine R_iald hT dX9_clears_27 (rk_heldAt hS) (rl_heldAt hS) (by first | exact ⟨rfl, by decide⟩ | exact zix_nI (by omega) (by decide) | assumption) ?_
        refine J_topil (clP_held σ i i (by decide) (by decide)) ?_
        refine J_goto (tgt := 32) hT dX9_clears_28 (by decide) ?_
        refine R_iast hT dX9_clears_32 (rk_value hS) (rl_value hS) (by first | exact ⟨rfl, by decide⟩ | exact zix_nI (by omega) (by decide) | assumption) ?_
        refine J_aload_n (i := 0) hT dX9_clears_33 rfl rfl ?_
        refine R_getP hT fX9_74 rfl dX9_clears_34 (rk hS) (rp_isDirty hS) ?_
        refine J_iload_n (i := 1) hT dX9_clears_37 rfl rfl ?_
        refine J_aload_n (i := 0) hT dX9_clears_38 rfl rfl ?_
        refine R_getP hT fX9_47 rfl dX9_clears_39 (rk hS) (rp_isHeld hS) ?_
        refine J_iload_n (i := 1) hT dX9_clears_42 rfl rfl ?_
        refine R_zald hT dX9_clears_43 (rk_isHeld hS) (rl_isHeld hS) (by first | exact ⟨rfl, by decide⟩ | exact zix_nI (by omega) (by decide) | assumption) ?_
        refine J_topil ((zu_ne _ _ _ _ (by decide) i).trans (clP_held σ i i (by decide) (by decide))) ?_
        refine J_if_ne (tgt := 51) hT dX9_clears_44 (by decide) (fun q44 => ?_) (fun q44 => ?_)
        · refine J_iconst (v := 0) hT dX9_clears_51 rfl ?_
          refine R_zast hT dX9_clears_52 (rk_isDirty hS) (rl_isDirty hS) (by first | exact ⟨rfl, by decide⟩ | exact zix_nI (by omega) (by decide) | assumption) (by decide) ?_
          refine S_iinc1 hT dX9_clears_53 (nI_inc _) rfl ?_
          refine J_goto (tgt := 2) hT dX9_clears_56 (by decide) ?_
          refine J_mu (congrArg (fun s => zA4 μ s π g) (clP_s σ i ?_ ?_)) (ih (i + 1) (by omega))
          · simp_all
          · simp_all
        · refine J_iconst (v := 1) hT dX9_clears_47 rfl ?_
          refine J_goto (tgt := 52) hT dX9_clears_48 (by decide) ?_
          refine R_zast hT dX9_clears_52 (rk_isDirty hS) (rl_isDirty hS) (by first | exact ⟨rfl, by decide⟩ | exact zix_nI (by omega) (by decide) | assumption) (by decide) ?_
          refine S_iinc1 hT dX9_clears_53 (nI_inc _) rfl ?_
          refine J_goto (tgt := 2) hT dX9_clears_56 (by decide) ?_
          refine J_mu (congrArg (fun s => zA4 μ s π g) (clP_s σ i ?_ ?_)) (ih (i + 1) (by omega))
          · simp_all
          · simp_all
  refine J_mu (congrArg (fun s => zA4 μ s π g) (clP_0 σ).symm) ?_
  refine J_iconst (v := 0) hT dX9_clears_0 rfl ?_
  refine S_istore1 hT dX9_clears_1 rfl rfl ?_
  exact loop 12 0 rfl
