set_option maxRecDepth 100000 in
set_option maxHeartbeats 4000000 in
theorem c_X9_deeds {l : Launch} {Z : zZ} (hZ : zSt l Z) {μ : zMem} {σ : Nat → Nat → Int32} {π : Nat → Nat → Option Nat} {g : Nat → Nat → Int64} (hS : zRef μ π) {d : Nat} {ss : List Int} (hd : 1 ≤ d ∧ d ≤ 10) (hb : sbd ss) (hl : ss.length ≤ 30) (ht : σ 67 44 = nI ss.length) (hs : zStk g ss) (h1 : d = 1 → 1 ≤ ss.length) (h2 : d = 10 → 3 ≤ ss.length) (h3 : d ≠ 1 → d ≠ 10 → 2 ≤ ss.length) : zCt l Z mX9_deeds 1 0 0 [.ref 67, .int (nI d)] (zA4 μ σ π g) (fun r μ' => r = none ∧ ∃ g', μ' = zA4 μ (zu σ 67 44 (nI (evD d ss).length)) π g' ∧ zStk g' (evD d ss) ∧ zge g g') := by
  refine zCt_of hZ mpX9_deeds (Nat.le_of_ble_eq_true rfl) (L := [some (.ref 67), some (.int (nI d)), none, none, none, none, none, none]) rfl (fun τ hY => ?_)
  have hT := hY.1
  have e10 : d = 1 ∨ d = 10 ∨ d = 2 ∨ d = 3 ∨ d = 4 ∨ d = 5 ∨ d = 6 ∨ d = 7 ∨ d = 8 ∨ d = 9 := by omega
  rcases e10 with rfl | rfl | e
  · match ss, h1 rfl, hb, hl, ht, hs with
    | x :: s1, _, hb, hl, ht, hs =>
      have e : zu σ 67 44 (nI (evD 1 (x :: s1)).length) = σ := zu_self ht
      rw [e]
      have hl1 : s1.length < 30 := by simp at hl; omega
      refine J_iload_n (i := 1) hT dX9_deeds_0 rfl rfl ?_
      refine J_iconst (v := 1) hT dX9_deeds_1 rfl ?_
      refine J_icmp_ne (tgt := 29) hT dX9_deeds_2 (by decide) (fun q => absurd (by decide) q) (fun _ => ?_)
      refine J_aload_n (i := 0) hT dX9_deeds_5 rfl rfl ?_
      refine R_getP hT fX9_122 rfl dX9_deeds_6 (rk hS) (rp_stack hS) ?_
      refine J_aload_n (i := 0) hT dX9_deeds_9 rfl rfl ?_
      refine R_getI hT fX9_187 rfl dX9_deeds_10 (rk hS) ?_
      refine J_topil (ht) ?_
      refine J_iconst (v := 1) hT dX9_deeds_13 rfl ?_
      refine J_isub hT dX9_deeds_14 ?_
      refine J_topil (nI_pred s1.length) ?_
      refine J_aload_n (i := 0) hT dX9_deeds_15 rfl rfl ?_
      refine R_getP hT fX9_122 rfl dX9_deeds_16 (rk hS) (rp_stack hS) ?_
      refine J_aload_n (i := 0) hT dX9_deeds_19 rfl rfl ?_
      refine R_getI hT fX9_187 rfl dX9_deeds_20 (rk hS) ?_
      refine J_topil (ht) ?_
      refine J_iconst (v := 1) hT dX9_deeds_23 rfl ?_
      refine J_isub hT dX9_deeds_24 ?_
      refine J_topil (nI_pred s1.length) ?_
      refine R_lald hT dX9_deeds_25 (rk_stack hS) (rl_stack hS) (zix_nI (j := s1.length) (by omega) (by decide)) ?_
      refine J_topll (hs.2) ?_
      refine J_lneg hT dX9_deeds_26 ?_
      refine J_topll (lI_neg x) ?_
      refine R_last hT dX9_deeds_27 (rk_stack hS) (rl_stack hS) (zix_nI (j := s1.length) (by omega) (by decide)) ?_
      exact J_vret hT dX9_deeds_28 rfl (⟨rfl, _, rfl, zStk_push hs.1 rfl _, zge_set (zge_refl _) _ _⟩) (Nat.le_refl _) (Nat.le_refl _)
  · match ss, h2 rfl, hb, hl, ht, hs with
    | x :: a :: q :: s3, _, hb, hl, ht, hs =>
      have hl1 : s3.length + 3 ≤ 30 := by simpa using hl
      have hq := hb q (by simp)
      refine J_iload_n (i := 1) hT dX9_deeds_0 rfl rfl ?_
      refine J_iconst (v := 1) hT dX9_deeds_1 rfl ?_
      refine J_icmp_ne (tgt := 29) hT dX9_deeds_2 (by decide) (fun _ => ?_) (fun q => absurd q (by decide))
      refine J_iload_n (i := 1) hT dX9_deeds_29 rfl rfl ?_
      refine J_bipush (v := 10) hT dX9_deeds_30 rfl ?_
      refine J_icmp_ne (tgt := 96) hT dX9_deeds_32 (by decide) (fun q => absurd (by decide) q) (fun _ => ?_)
      refine J_aload_n (i := 0) hT dX9_deeds_35 rfl rfl ?_
      refine J_dup hT dX9_deeds_36 rfl ?_
      refine R_getI hT fX9_187 rfl dX9_deeds_37 (rk hS) ?_
      refine J_topil (ht) ?_
      refine J_iconst (v := 2) hT dX9_deeds_40 rfl ?_
      refine J_isub hT dX9_deeds_41 ?_
      refine J_topil ((show nI (s3.length + 1 + 1 + 1) - 2 = nI (s3.length + 1) from nI_sub (a := s3.length + 3) (b := 2) (by omega))) ?_
      refine R_putI hT fX9_187 rfl rfl dX9_deeds_42 (rk hS) ?_
      refine J_aload_n (i := 0) hT dX9_deeds_45 rfl rfl ?_
      refine R_getP hT fX9_122 rfl dX9_deeds_46 (rk hS) (rp_stack hS) ?_
      refine J_aload_n (i := 0) hT dX9_deeds_49 rfl rfl ?_
      refine R_getI hT fX9_187 rfl dX9_deeds_50 (rk hS) ?_
      refine J_topil (zu_eq _ _ _ _) ?_
      refine J_iconst (v := 1) hT dX9_deeds_53 rfl ?_
      refine J_isub hT dX9_deeds_54 ?_
      refine J_topil (nI_pred s3.length) ?_
      refine J_aload_n (i := 0) hT dX9_deeds_55 rfl rfl ?_
      refine R_getP hT fX9_122 rfl dX9_deeds_56 (rk hS) (rp_stack hS) ?_
      refine J_aload_n (i := 0) hT dX9_deeds_59 rfl rfl ?_
      refine R_getI hT fX9_187 rfl dX9_deeds_60 (rk hS) ?_
      refine J_topil (zu_eq _ _ _ _) ?_
      refine J_iconst (v := 1) hT dX9_deeds_63 rfl ?_
      refine J_isub hT dX9_deeds_64 ?_
      refine J_topil (nI_pred s3.length) ?_
      refine R_lald hT dX9_deeds_65 (rk_stack hS) (rl_stack hS) (zix_nI (j := s3.length) (by omega) (by decide)) ?_
      refine J_topll (hs.1.1.2) ?_
      refine J_lconst (v := 0) hT dX9_deeds_66 rfl ?_
      refine J_lcmp hT dX9_deeds_67 ?_
      refine J_if_le (tgt := 83) hT dX9_deeds_68 (by decide) (fun q68 => ?_) (fun q68 => ?_)
      · refine J_aload_n (i := 0) hT dX9_deeds_83 rfl rfl ?_
        refine R_getP hT fX9_122 rfl dX9_deeds_84 (rk hS) (rp_stack hS) ?_
        refine J_aload_n (i := 0) hT dX9_deeds_87 rfl rfl ?_
        refine R_getI hT fX9_187 rfl dX9_deeds_88 (rk hS) ?_
        refine J_topil (zu_eq _ _ _ _) ?_
        refine J_iconst (v := 1) hT dX9_deeds_91 rfl ?_
        refine J_iadd hT dX9_deeds_92 ?_
        refine J_topil (nI_1 (s3.length + 1)) ?_
        refine R_lald hT dX9_deeds_93 (rk_stack hS) (rl_stack hS) (zix_nI (j := s3.length + 1 + 1) (by omega) (by decide)) ?_
        refine J_topll (hs.2) ?_
        refine J_topll (y := lI (if 0 < q then a else x)) ?_ ?_
        · simp only [lg_cmp_le, ← Int64.not_lt, show (0 : Int64) = lI 0 from rfl, lI_lt (show -9223372036854775808 ≤ (0 : Int) by decide) (by decide) (show -9223372036854775808 ≤ q by omega) (by omega)] at *
          congr 1
          split <;> omega
        refine R_last hT dX9_deeds_94 (rk_stack hS) (rl_stack hS) (zix_nI (j := s3.length) (by omega) (by decide)) ?_
        exact J_vret hT dX9_deeds_95 rfl ⟨rfl, _, rfl, zStk_push hs.1.1.1 rfl _, zge_set (zge_refl _) _ _⟩ (Nat.le_refl _) (Nat.le_refl _)
      · refine J_aload_n (i := 0) hT dX9_deeds_71 rfl rfl ?_
        refine R_getP hT fX9_122 rfl dX9_deeds_72 (rk hS) (rp_stack hS) ?_
        refine J_aload_n (i := 0) hT dX9_deeds_75 rfl rfl ?_
        refine R_getI hT fX9_187 rfl dX9_deeds_76 (rk hS) ?_
        refine J_topil (zu_eq _ _ _ _) ?_
        refine R_lald hT dX9_deeds_79 (rk_stack hS) (rl_stack hS) (zix_nI (j := s3.length + 1) (by omega) (by decide)) ?_
        refine J_topll (hs.1.2) ?_
        refine J_goto (tgt := 94) hT dX9_deeds_80 (by decide) ?_
        refine J_topll (y := lI (if 0 < q then a else x)) ?_ ?_
        · simp only [lg_cmp_le, ← Int64.not_lt, show (0 : Int64) = lI 0 from rfl, lI_lt (show -9223372036854775808 ≤ (0 : Int) by decide) (by decide) (show -9223372036854775808 ≤ q by omega) (by omega)] at *
          congr 1
          split <;> omega
        refine R_last hT dX9_deeds_94 (rk_stack hS) (rl_stack hS) (zix_nI (j := s3.length) (by omega) (by decide)) ?_
        exact J_vret hT dX9_deeds_95 rfl ⟨rfl, _, rfl, zStk_push hs.1.1.1 rfl _, zge_set (zge_refl _) _ _⟩ (Nat.le_refl _) (Nat.le_refl _)
  · match ss, h3 (by omega) (by omega), hb, hl, ht, hs with
    | x :: a :: s2, _, hb, hl, ht, hs =>
      have hl1 : s2.length + 2 ≤ 30 := by simpa using hl
      have hx := hb x (by simp)
      have ha := hb a (by simp)
      have hdn : ¬ d = 1 := by omega
      have hdt : ¬ d = 10 := by omega
      have hev : evD d (x :: a :: s2) = clampI (binI d a x) :: s2 := by simp [evD, hdn, hdt]
      rw [hev]
      have key : ∀ v : Int, v = binI d a x → zJ τ (zFn τ (fun r μ' => r = none ∧ ∃ g', μ' = zA4 μ (zu σ 67 44 (nI (clampI (binI d a x) :: s2).length)) π g' ∧ zStk g' (clampI (binI d a x) :: s2) ∧ zge g g') 0 0) 267 [some (.ref 67), some (.int (nI d)), some (.long (lI a)), none, some (.long (lI x)), none, some (.long (lI v)), none] [] (zA4 μ (zu σ 67 44 (nI (s2.length + 1))) π g) 0 0 := by
        intro v hv
        subst hv
        have hbd : -9223372036854775808 ≤ binI d a x ∧ binI d a x < 9223372036854775808 := by
          have hm : -(2147483648 * 2147483648) ≤ a * x ∧ a * x ≤ 2147483648 * 2147483648 := by
            have n1 : a.natAbs ≤ 2147483648 := by omega
            have n2 : x.natAbs ≤ 2147483648 := by omega
            have n3 := Nat.mul_le_mul n1 n2
            rw [← Int.natAbs_mul] at n3
            omega
          unfold binI
          repeat' split
          all_goals omega
        refine J_aload_n (i := 0) hT dX9_deeds_267 rfl rfl ?_
        refine R_getP hT fX9_122 rfl dX9_deeds_268 (rk hS) (rp_stack hS) ?_
        refine J_aload_n (i := 0) hT dX9_deeds_271 rfl rfl ?_
        refine R_getI hT fX9_187 rfl dX9_deeds_272 (rk hS) ?_
        refine J_topil (zu_eq _ _ _ _) ?_
        refine J_iconst (v := 1) hT dX9_deeds_275 rfl ?_
        refine J_isub hT dX9_deeds_276 ?_
        refine J_topil (nI_pred s2.length) ?_
        refine J_lload (i := 6) hT dX9_deeds_277 rfl ?_
        refine R_callS1 hY dX9_deeds_279 mfX9_kept mtX9_kept kX9_190 (c_X9_kept hZ hbd.1 hbd.2) rfl (by decide) rfl rfl (Nat.le_of_ble_eq_true rfl) (Nat.le_refl _) (Nat.le_refl _) ?_
        refine R_last hT dX9_deeds_282 (rk_stack hS) (rl_stack hS) (zix_nI (j := s2.length) (by omega) (by decide)) ?_
        exact J_vret hT dX9_deeds_283 rfl (⟨rfl, _, rfl, zStk_push hs.1.1 rfl _, zge_set (zge_refl _) _ _⟩) (Nat.le_refl _) (Nat.le_refl _)
      rcases e with rfl | rfl | rfl | rfl | rfl | rfl | rfl | rfl
      · refine J_iload_n (i := 1) hT dX9_deeds_0 rfl rfl ?_
        refine J_iconst (v := 1) hT dX9_deeds_1 rfl ?_
        refine J_icmp_ne (tgt := 29) hT dX9_deeds_2 (by decide) (fun _ => ?_) (fun q => absurd q (by decide))
        refine J_iload_n (i := 1) hT dX9_deeds_29 rfl rfl ?_
        refine J_bipush (v := 10) hT dX9_deeds_30 rfl ?_
        refine J_icmp_ne (tgt := 96) hT dX9_deeds_32 (by decide) (fun _ => ?_) (fun q => absurd q (by decide))
        refine J_aload_n (i := 0) hT dX9_deeds_96 rfl rfl ?_
        refine J_dup hT dX9_deeds_97 rfl ?_
        refine R_getI hT fX9_187 rfl dX9_deeds_98 (rk hS) ?_
        refine J_topil (ht) ?_
        refine J_iconst (v := 1) hT dX9_deeds_101 rfl ?_
        refine J_isub hT dX9_deeds_102 ?_
        refine J_topil (nI_pred (s2.length + 1)) ?_
        refine R_putI hT fX9_187 rfl rfl dX9_deeds_103 (rk hS) ?_
        refine J_aload_n (i := 0) hT dX9_deeds_106 rfl rfl ?_
        refine R_getP hT fX9_122 rfl dX9_deeds_107 (rk hS) (rp_stack hS) ?_
        refine J_aload_n (i := 0) hT dX9_deeds_110 rfl rfl ?_
        refine R_getI hT fX9_187 rfl dX9_deeds_111 (rk hS) ?_
        refine J_topil (zu_eq _ _ _ _) ?_
        refine J_iconst (v := 1) hT dX9_deeds_114 rfl ?_
        refine J_isub hT dX9_deeds_115 ?_
        refine J_topil (nI_pred s2.length) ?_
        refine R_lald hT dX9_deeds_116 (rk_stack hS) (rl_stack hS) (zix_nI (j := s2.length) (by omega) (by decide)) ?_
        refine J_topll (hs.1.2) ?_
        refine S_lstore2 hT dX9_deeds_117 rfl rfl ?_
        refine J_aload_n (i := 0) hT dX9_deeds_118 rfl rfl ?_
        refine R_getP hT fX9_122 rfl dX9_deeds_119 (rk hS) (rp_stack hS) ?_
        refine J_aload_n (i := 0) hT dX9_deeds_122 rfl rfl ?_
        refine R_getI hT fX9_187 rfl dX9_deeds_123 (rk hS) ?_
        refine J_topil (zu_eq _ _ _ _) ?_
        refine R_lald hT dX9_deeds_126 (rk_stack hS) (rl_stack hS) (zix_nI (j := s2.length + 1) (by omega) (by decide)) ?_
        refine J_topll (hs.2) ?_
        refine S_lstore4 hT dX9_deeds_127 rfl ?_
        refine J_iload_n (i := 1) hT dX9_deeds_129 rfl rfl ?_
        refine J_iconst (v := 2) hT dX9_deeds_130 rfl ?_
        refine J_icmp_ne (tgt := 141) hT dX9_deeds_131 (by decide) (fun q => absurd (by decide) q) (fun _ => ?_)
        refine J_lload_n (i := 2) hT dX9_deeds_134 rfl rfl ?_
        refine J_lload (i := 4) hT dX9_deeds_135 rfl ?_
        refine J_ladd hT dX9_deeds_137 ?_
        refine J_topll (lI_add a x) ?_
        refine J_goto (tgt := 157) hT dX9_deeds_138 (by decide) ?_
        refine S_lstore6 hT dX9_deeds_157 rfl ?_
        refine J_iload_n (i := 1) hT dX9_deeds_159 rfl rfl ?_
        refine J_iconst (v := 5) hT dX9_deeds_160 rfl ?_
        refine J_icmp_eq (tgt := 176) hT dX9_deeds_161 (by decide) (fun q => absurd q (by decide)) (fun _ => ?_)
        refine J_iload_n (i := 1) hT dX9_deeds_164 rfl rfl ?_
        refine J_bipush (v := 6) hT dX9_deeds_165 rfl ?_
        refine J_icmp_eq (tgt := 176) hT dX9_deeds_167 (by decide) (fun q => absurd q (by decide)) (fun _ => ?_)
        refine J_iload_n (i := 1) hT dX9_deeds_170 rfl rfl ?_
        refine J_bipush (v := 7) hT dX9_deeds_171 rfl ?_
        refine J_icmp_ne (tgt := 221) hT dX9_deeds_173 (by decide) (fun _ => ?_) (fun q => absurd q (by decide))
        refine J_iload_n (i := 1) hT dX9_deeds_221 rfl rfl ?_
        refine J_bipush (v := 8) hT dX9_deeds_222 rfl ?_
        refine J_icmp_eq (tgt := 233) hT dX9_deeds_224 (by decide) (fun q => absurd q (by decide)) (fun _ => ?_)
        refine J_iload_n (i := 1) hT dX9_deeds_227 rfl rfl ?_
        refine J_bipush (v := 9) hT dX9_deeds_228 rfl ?_
        refine J_icmp_ne (tgt := 267) hT dX9_deeds_230 (by decide) (fun _ => ?_) (fun q => absurd q (by decide))
        exact key _ (by simp [binI])
      · refine J_iload_n (i := 1) hT dX9_deeds_0 rfl rfl ?_
        refine J_iconst (v := 1) hT dX9_deeds_1 rfl ?_
        refine J_icmp_ne (tgt := 29) hT dX9_deeds_2 (by decide) (fun _ => ?_) (fun q => absurd q (by decide))
        refine J_iload_n (i := 1) hT dX9_deeds_29 rfl rfl ?_
        refine J_bipush (v := 10) hT dX9_deeds_30 rfl ?_
        refine J_icmp_ne (tgt := 96) hT dX9_deeds_32 (by decide) (fun _ => ?_) (fun q => absurd q (by decide))
        refine J_aload_n (i := 0) hT dX9_deeds_96 rfl rfl ?_
        refine J_dup hT dX9_deeds_97 rfl ?_
        refine R_getI hT fX9_187 rfl dX9_deeds_98 (rk hS) ?_
        refine J_topil (ht) ?_
        refine J_iconst (v := 1) hT dX9_deeds_101 rfl ?_
        refine J_isub hT dX9_deeds_102 ?_
        refine J_topil (nI_pred (s2.length + 1)) ?_
        refine R_putI hT fX9_187 rfl rfl dX9_deeds_103 (rk hS) ?_
        refine J_aload_n (i := 0) hT dX9_deeds_106 rfl rfl ?_
        refine R_getP hT fX9_122 rfl dX9_deeds_107 (rk hS) (rp_stack hS) ?_
        refine J_aload_n (i := 0) hT dX9_deeds_110 rfl rfl ?_
        refine R_getI hT fX9_187 rfl dX9_deeds_111 (rk hS) ?_
        refine J_topil (zu_eq _ _ _ _) ?_
        refine J_iconst (v := 1) hT dX9_deeds_114 rfl ?_
        refine J_isub hT dX9_deeds_115 ?_
        refine J_topil (nI_pred s2.length) ?_
        refine R_lald hT dX9_deeds_116 (rk_stack hS) (rl_stack hS) (zix_nI (j := s2.length) (by omega) (by decide)) ?_
        refine J_topll (hs.1.2) ?_
        refine S_lstore2 hT dX9_deeds_117 rfl rfl ?_
        refine J_aload_n (i := 0) hT dX9_deeds_118 rfl rfl ?_
        refine R_getP hT fX9_122 rfl dX9_deeds_119 (rk hS) (rp_stack hS) ?_
        refine J_aload_n (i := 0) hT dX9_deeds_122 rfl rfl ?_
        refine R_getI hT fX9_187 rfl dX9_deeds_123 (rk hS) ?_
        refine J_topil (zu_eq _ _ _ _) ?_
        refine R_lald hT dX9_deeds_126 (rk_stack hS) (rl_stack hS) (zix_nI (j := s2.length + 1) (by omega) (by decide)) ?_
        refine J_topll (hs.2) ?_
        refine S_lstore4 hT dX9_deeds_127 rfl ?_
        refine J_iload_n (i := 1) hT dX9_deeds_129 rfl rfl ?_
        refine J_iconst (v := 2) hT dX9_deeds_130 rfl ?_
        refine J_icmp_ne (tgt := 141) hT dX9_deeds_131 (by decide) (fun _ => ?_) (fun q => absurd q (by decide))
        refine J_iload_n (i := 1) hT dX9_deeds_141 rfl rfl ?_
        refine J_iconst (v := 3) hT dX9_deeds_142 rfl ?_
        refine J_icmp_ne (tgt := 153) hT dX9_deeds_143 (by decide) (fun q => absurd (by decide) q) (fun _ => ?_)
        refine J_lload_n (i := 2) hT dX9_deeds_146 rfl rfl ?_
        refine J_lload (i := 4) hT dX9_deeds_147 rfl ?_
        refine J_lsub hT dX9_deeds_149 ?_
        refine J_topll (lI_sub a x) ?_
        refine J_goto (tgt := 157) hT dX9_deeds_150 (by decide) ?_
        refine S_lstore6 hT dX9_deeds_157 rfl ?_
        refine J_iload_n (i := 1) hT dX9_deeds_159 rfl rfl ?_
        refine J_iconst (v := 5) hT dX9_deeds_160 rfl ?_
        refine J_icmp_eq (tgt := 176) hT dX9_deeds_161 (by decide) (fun q => absurd q (by decide)) (fun _ => ?_)
        refine J_iload_n (i := 1) hT dX9_deeds_164 rfl rfl ?_
        refine J_bipush (v := 6) hT dX9_deeds_165 rfl ?_
        refine J_icmp_eq (tgt := 176) hT dX9_deeds_167 (by decide) (fun q => absurd q (by decide)) (fun _ => ?_)
        refine J_iload_n (i := 1) hT dX9_deeds_170 rfl rfl ?_
        refine J_bipush (v := 7) hT dX9_deeds_171 rfl ?_
        refine J_icmp_ne (tgt := 221) hT dX9_deeds_173 (by decide) (fun _ => ?_) (fun q => absurd q (by decide))
        refine J_iload_n (i := 1) hT dX9_deeds_221 rfl rfl ?_
        refine J_bipush (v := 8) hT dX9_deeds_222 rfl ?_
        refine J_icmp_eq (tgt := 233) hT dX9_deeds_224 (by decide) (fun q => absurd q (by decide)) (fun _ => ?_)
        refine J_iload_n (i := 1) hT dX9_deeds_227 rfl rfl ?_
        refine J_bipush (v := 9) hT dX9_deeds_228 rfl ?_
        refine J_icmp_ne (tgt := 267) hT dX9_deeds_230 (by decide) (fun _ => ?_) (fun q => absurd q (by decide))
        exact key _ (by simp [binI])
      · refine J_iload_n (i := 1) hT dX9_deeds_0 rfl rfl ?_
        refine J_iconst (v := 1) hT dX9_deeds_1 rfl ?_
        refine J_icmp_ne (tgt := 29) hT dX9_deeds_2 (by decide) (fun _ => ?_) (fun q => absurd q (by decide))
        refine J_iload_n (i := 1) hT dX9_deeds_29 rfl rfl ?_
        refine J_bipush (v := 10) hT dX9_deeds_30 rfl ?_
        refine J_icmp_ne (tgt := 96) hT dX9_deeds_32 (by decide) (fun _ => ?_) (fun q => absurd q (by decide))
        refine J_aload_n (i := 0) hT dX9_deeds_96 rfl rfl ?_
        refine J_dup hT dX9_deeds_97 rfl ?_
        refine R_getI hT fX9_187 rfl dX9_deeds_98 (rk hS) ?_
        refine J_topil (ht) ?_
        refine J_iconst (v := 1) hT dX9_deeds_101 rfl ?_
        refine J_isub hT dX9_deeds_102 ?_
        refine J_topil (nI_pred (s2.length + 1)) ?_
        refine R_putI hT fX9_187 rfl rfl dX9_deeds_103 (rk hS) ?_
        refine J_aload_n (i := 0) hT dX9_deeds_106 rfl rfl ?_
        refine R_getP hT fX9_122 rfl dX9_deeds_107 (rk hS) (rp_stack hS) ?_
        refine J_aload_n (i := 0) hT dX9_deeds_110 rfl rfl ?_
        refine R_getI hT fX9_187 rfl dX9_deeds_111 (rk hS) ?_
        refine J_topil (zu_eq _ _ _ _) ?_
        refine J_iconst (v := 1) hT dX9_deeds_114 rfl ?_
        refine J_isub hT dX9_deeds_115 ?_
        refine J_topil (nI_pred s2.length) ?_
        refine R_lald hT dX9_deeds_116 (rk_stack hS) (rl_stack hS) (zix_nI (j := s2.length) (by omega) (by decide)) ?_
        refine J_topll (hs.1.2) ?_
        refine S_lstore2 hT dX9_deeds_117 rfl rfl ?_
        refine J_aload_n (i := 0) hT dX9_deeds_118 rfl rfl ?_
        refine R_getP hT fX9_122 rfl dX9_deeds_119 (rk hS) (rp_stack hS) ?_
        refine J_aload_n (i := 0) hT dX9_deeds_122 rfl rfl ?_
        refine R_getI hT fX9_187 rfl dX9_deeds_123 (rk hS) ?_
        refine J_topil (zu_eq _ _ _ _) ?_
        refine R_lald hT dX9_deeds_126 (rk_stack hS) (rl_stack hS) (zix_nI (j := s2.length + 1) (by omega) (by decide)) ?_
        refine J_topll (hs.2) ?_
        refine S_lstore4 hT dX9_deeds_127 rfl ?_
        refine J_iload_n (i := 1) hT dX9_deeds_129 rfl rfl ?_
        refine J_iconst (v := 2) hT dX9_deeds_130 rfl ?_
        refine J_icmp_ne (tgt := 141) hT dX9_deeds_131 (by decide) (fun _ => ?_) (fun q => absurd q (by decide))
        refine J_iload_n (i := 1) hT dX9_deeds_141 rfl rfl ?_
        refine J_iconst (v := 3) hT dX9_deeds_142 rfl ?_
        refine J_icmp_ne (tgt := 153) hT dX9_deeds_143 (by decide) (fun _ => ?_) (fun q => absurd q (by decide))
        refine J_lload_n (i := 2) hT dX9_deeds_153 rfl rfl ?_
        refine J_lload (i := 4) hT dX9_deeds_154 rfl ?_
        refine J_lmul hT dX9_deeds_156 ?_
        refine J_topll (lI_mul a x) ?_
        refine S_lstore6 hT dX9_deeds_157 rfl ?_
        refine J_iload_n (i := 1) hT dX9_deeds_159 rfl rfl ?_
        refine J_iconst (v := 5) hT dX9_deeds_160 rfl ?_
        refine J_icmp_eq (tgt := 176) hT dX9_deeds_161 (by decide) (fun q => absurd q (by decide)) (fun _ => ?_)
        refine J_iload_n (i := 1) hT dX9_deeds_164 rfl rfl ?_
        refine J_bipush (v := 6) hT dX9_deeds_165 rfl ?_
        refine J_icmp_eq (tgt := 176) hT dX9_deeds_167 (by decide) (fun q => absurd q (by decide)) (fun _ => ?_)
        refine J_iload_n (i := 1) hT dX9_deeds_170 rfl rfl ?_
        refine J_bipush (v := 7) hT dX9_deeds_171 rfl ?_
        refine J_icmp_ne (tgt := 221) hT dX9_deeds_173 (by decide) (fun _ => ?_) (fun q => absurd q (by decide))
        refine J_iload_n (i := 1) hT dX9_deeds_221 rfl rfl ?_
        refine J_bipush (v := 8) hT dX9_deeds_222 rfl ?_
        refine J_icmp_eq (tgt := 233) hT dX9_deeds_224 (by decide) (fun q => absurd q (by decide)) (fun _ => ?_)
        refine J_iload_n (i := 1) hT dX9_deeds_227 rfl rfl ?_
        refine J_bipush (v := 9) hT dX9_deeds_228 rfl ?_
        refine J_icmp_ne (tgt := 267) hT dX9_deeds_230 (by decide) (fun _ => ?_) (fun q => absurd q (by decide))
        exact key _ (by simp [binI])
      · refine J_iload_n (i := 1) hT dX9_deeds_0 rfl rfl ?_
        refine J_iconst (v := 1) hT dX9_deeds_1 rfl ?_
        refine J_icmp_ne (tgt := 29) hT dX9_deeds_2 (by decide) (fun _ => ?_) (fun q => absurd q (by decide))
        refine J_iload_n (i := 1) hT dX9_deeds_29 rfl rfl ?_
        refine J_bipush (v := 10) hT dX9_deeds_30 rfl ?_
        refine J_icmp_ne (tgt := 96) hT dX9_deeds_32 (by decide) (fun _ => ?_) (fun q => absurd q (by decide))
        refine J_aload_n (i := 0) hT dX9_deeds_96 rfl rfl ?_
        refine J_dup hT dX9_deeds_97 rfl ?_
        refine R_getI hT fX9_187 rfl dX9_deeds_98 (rk hS) ?_
        refine J_topil (ht) ?_
        refine J_iconst (v := 1) hT dX9_deeds_101 rfl ?_
        refine J_isub hT dX9_deeds_102 ?_
        refine J_topil (nI_pred (s2.length + 1)) ?_
        refine R_putI hT fX9_187 rfl rfl dX9_deeds_103 (rk hS) ?_
        refine J_aload_n (i := 0) hT dX9_deeds_106 rfl rfl ?_
        refine R_getP hT fX9_122 rfl dX9_deeds_107 (rk hS) (rp_stack hS) ?_
        refine J_aload_n (i := 0) hT dX9_deeds_110 rfl rfl ?_
        refine R_getI hT fX9_187 rfl dX9_deeds_111 (rk hS) ?_
        refine J_topil (zu_eq _ _ _ _) ?_
        refine J_iconst (v := 1) hT dX9_deeds_114 rfl ?_
        refine J_isub hT dX9_deeds_115 ?_
        refine J_topil (nI_pred s2.length) ?_
        refine R_lald hT dX9_deeds_116 (rk_stack hS) (rl_stack hS) (zix_nI (j := s2.length) (by omega) (by decide)) ?_
        refine J_topll (hs.1.2) ?_
        refine S_lstore2 hT dX9_deeds_117 rfl rfl ?_
        refine J_aload_n (i := 0) hT dX9_deeds_118 rfl rfl ?_
        refine R_getP hT fX9_122 rfl dX9_deeds_119 (rk hS) (rp_stack hS) ?_
        refine J_aload_n (i := 0) hT dX9_deeds_122 rfl rfl ?_
        refine R_getI hT fX9_187 rfl dX9_deeds_123 (rk hS) ?_
        refine J_topil (zu_eq _ _ _ _) ?_
        refine R_lald hT dX9_deeds_126 (rk_stack hS) (rl_stack hS) (zix_nI (j := s2.length + 1) (by omega) (by decide)) ?_
        refine J_topll (hs.2) ?_
        refine S_lstore4 hT dX9_deeds_127 rfl ?_
        refine J_iload_n (i := 1) hT dX9_deeds_129 rfl rfl ?_
        refine J_iconst (v := 2) hT dX9_deeds_130 rfl ?_
        refine J_icmp_ne (tgt := 141) hT dX9_deeds_131 (by decide) (fun _ => ?_) (fun q => absurd q (by decide))
        refine J_iload_n (i := 1) hT dX9_deeds_141 rfl rfl ?_
        refine J_iconst (v := 3) hT dX9_deeds_142 rfl ?_
        refine J_icmp_ne (tgt := 153) hT dX9_deeds_143 (by decide) (fun _ => ?_) (fun q => absurd q (by decide))
        refine J_lload_n (i := 2) hT dX9_deeds_153 rfl rfl ?_
        refine J_lload (i := 4) hT dX9_deeds_154 rfl ?_
        refine J_lmul hT dX9_deeds_156 ?_
        refine J_topll (lI_mul a x) ?_
        refine S_lstore6 hT dX9_deeds_157 rfl ?_
        refine J_iload_n (i := 1) hT dX9_deeds_159 rfl rfl ?_
        refine J_iconst (v := 5) hT dX9_deeds_160 rfl ?_
        refine J_icmp_eq (tgt := 176) hT dX9_deeds_161 (by decide) (fun _ => ?_) (fun q => absurd (by decide) q)
        refine J_iload_n (i := 1) hT dX9_deeds_176 rfl rfl ?_
        refine J_iconst (v := 5) hT dX9_deeds_177 rfl ?_
        refine J_icmp_ne (tgt := 191) hT dX9_deeds_178 (by decide) (fun q => absurd (by decide) q) (fun _ => ?_)
        refine J_lload_n (i := 2) hT dX9_deeds_181 rfl rfl ?_
        refine J_lload (i := 4) hT dX9_deeds_182 rfl ?_
        refine J_lcmp hT dX9_deeds_184 ?_
        refine J_if_ge (tgt := 218) hT dX9_deeds_185 (by decide) (fun q185 => ?_) (fun q185 => ?_)
        · refine J_lconst (v := 0) hT dX9_deeds_218 rfl ?_
          refine J_topll (y := lI (binI 5 a x)) ?_ ?_
          · simp only [ge_iff_le, lg_cmp_le, lg_cmp_ge, lg_cmp_eq, ← Int64.not_lt, Decidable.not_not, lI_lt (show -9223372036854775808 ≤ a by omega) (show a < 9223372036854775808 by omega) (show -9223372036854775808 ≤ x by omega) (show x < 9223372036854775808 by omega), lI_lt (show -9223372036854775808 ≤ x by omega) (show x < 9223372036854775808 by omega) (show -9223372036854775808 ≤ a by omega) (show a < 9223372036854775808 by omega), lI_inj (show -9223372036854775808 ≤ a by omega) (show a < 9223372036854775808 by omega) (show -9223372036854775808 ≤ x by omega) (show x < 9223372036854775808 by omega)] at *
            simp only [binI]
            first
              | (simp [*]; done)
              | (simp [*]; rfl)
          refine S_lstore6 hT dX9_deeds_219 rfl ?_
          refine J_iload_n (i := 1) hT dX9_deeds_221 rfl rfl ?_
          refine J_bipush (v := 8) hT dX9_deeds_222 rfl ?_
          refine J_icmp_eq (tgt := 233) hT dX9_deeds_224 (by decide) (fun q => absurd q (by decide)) (fun _ => ?_)
          refine J_iload_n (i := 1) hT dX9_deeds_227 rfl rfl ?_
          refine J_bipush (v := 9) hT dX9_deeds_228 rfl ?_
          refine J_icmp_ne (tgt := 267) hT dX9_deeds_230 (by decide) (fun _ => ?_) (fun q => absurd q (by decide))
          exact key _ rfl
        · refine J_goto (tgt := 214) hT dX9_deeds_188 (by decide) ?_
          refine J_lconst (v := 1) hT dX9_deeds_214 rfl ?_
          refine J_goto (tgt := 219) hT dX9_deeds_215 (by decide) ?_
          refine J_topll (y := lI (binI 5 a x)) ?_ ?_
          · simp only [ge_iff_le, lg_cmp_le, lg_cmp_ge, lg_cmp_eq, ← Int64.not_lt, Decidable.not_not, lI_lt (show -9223372036854775808 ≤ a by omega) (show a < 9223372036854775808 by omega) (show -9223372036854775808 ≤ x by omega) (show x < 9223372036854775808 by omega), lI_lt (show -9223372036854775808 ≤ x by omega) (show x < 9223372036854775808 by omega) (show -9223372036854775808 ≤ a by omega) (show a < 9223372036854775808 by omega), lI_inj (show -9223372036854775808 ≤ a by omega) (show a < 9223372036854775808 by omega) (show -9223372036854775808 ≤ x by omega) (show x < 9223372036854775808 by omega)] at *
            simp only [binI]
            first
              | (simp [*]; done)
              | (simp [*]; rfl)
          refine S_lstore6 hT dX9_deeds_219 rfl ?_
          refine J_iload_n (i := 1) hT dX9_deeds_221 rfl rfl ?_
          refine J_bipush (v := 8) hT dX9_deeds_222 rfl ?_
          refine J_icmp_eq (tgt := 233) hT dX9_deeds_224 (by decide) (fun q => absurd q (by decide)) (fun _ => ?_)
          refine J_iload_n (i := 1) hT dX9_deeds_227 rfl rfl ?_
          refine J_bipush (v := 9) hT dX9_deeds_228 rfl ?_
          refine J_icmp_ne (tgt := 267) hT dX9_deeds_230 (by decide) (fun _ => ?_) (fun q => absurd q (by decide))
          exact key _ rfl
      · refine J_iload_n (i := 1) hT dX9_deeds_0 rfl rfl ?_
        refine J_iconst (v := 1) hT dX9_deeds_1 rfl ?_
        refine J_icmp_ne (tgt := 29) hT dX9_deeds_2 (by decide) (fun _ => ?_) (fun q => absurd q (by decide))
        refine J_iload_n (i := 1) hT dX9_deeds_29 rfl rfl ?_
        refine J_bipush (v := 10) hT dX9_deeds_30 rfl ?_
        refine J_icmp_ne (tgt := 96) hT dX9_deeds_32 (by decide) (fun _ => ?_) (fun q => absurd q (by decide))
        refine J_aload_n (i := 0) hT dX9_deeds_96 rfl rfl ?_
        refine J_dup hT dX9_deeds_97 rfl ?_
        refine R_getI hT fX9_187 rfl dX9_deeds_98 (rk hS) ?_
        refine J_topil (ht) ?_
        refine J_iconst (v := 1) hT dX9_deeds_101 rfl ?_
        refine J_isub hT dX9_deeds_102 ?_
        refine J_topil (nI_pred (s2.length + 1)) ?_
        refine R_putI hT fX9_187 rfl rfl dX9_deeds_103 (rk hS) ?_
        refine J_aload_n (i := 0) hT dX9_deeds_106 rfl rfl ?_
        refine R_getP hT fX9_122 rfl dX9_deeds_107 (rk hS) (rp_stack hS) ?_
        refine J_aload_n (i := 0) hT dX9_deeds_110 rfl rfl ?_
        refine R_getI hT fX9_187 rfl dX9_deeds_111 (rk hS) ?_
        refine J_topil (zu_eq _ _ _ _) ?_
        refine J_iconst (v := 1) hT dX9_deeds_114 rfl ?_
        refine J_isub hT dX9_deeds_115 ?_
        refine J_topil (nI_pred s2.length) ?_
        refine R_lald hT dX9_deeds_116 (rk_stack hS) (rl_stack hS) (zix_nI (j := s2.length) (by omega) (by decide)) ?_
        refine J_topll (hs.1.2) ?_
        refine S_lstore2 hT dX9_deeds_117 rfl rfl ?_
        refine J_aload_n (i := 0) hT dX9_deeds_118 rfl rfl ?_
        refine R_getP hT fX9_122 rfl dX9_deeds_119 (rk hS) (rp_stack hS) ?_
        refine J_aload_n (i := 0) hT dX9_deeds_122 rfl rfl ?_
        refine R_getI hT fX9_187 rfl dX9_deeds_123 (rk hS) ?_
        refine J_topil (zu_eq _ _ _ _) ?_
        refine R_lald hT dX9_deeds_126 (rk_stack hS) (rl_stack hS) (zix_nI (j := s2.length + 1) (by omega) (by decide)) ?_
        refine J_topll (hs.2) ?_
        refine S_lstore4 hT dX9_deeds_127 rfl ?_
        refine J_iload_n (i := 1) hT dX9_deeds_129 rfl rfl ?_
        refine J_iconst (v := 2) hT dX9_deeds_130 rfl ?_
        refine J_icmp_ne (tgt := 141) hT dX9_deeds_131 (by decide) (fun _ => ?_) (fun q => absurd q (by decide))
        refine J_iload_n (i := 1) hT dX9_deeds_141 rfl rfl ?_
        refine J_iconst (v := 3) hT dX9_deeds_142 rfl ?_
        refine J_icmp_ne (tgt := 153) hT dX9_deeds_143 (by decide) (fun _ => ?_) (fun q => absurd q (by decide))
        refine J_lload_n (i := 2) hT dX9_deeds_153 rfl rfl ?_
        refine J_lload (i := 4) hT dX9_deeds_154 rfl ?_
        refine J_lmul hT dX9_deeds_156 ?_
        refine J_topll (lI_mul a x) ?_
        refine S_lstore6 hT dX9_deeds_157 rfl ?_
        refine J_iload_n (i := 1) hT dX9_deeds_159 rfl rfl ?_
        refine J_iconst (v := 5) hT dX9_deeds_160 rfl ?_
        refine J_icmp_eq (tgt := 176) hT dX9_deeds_161 (by decide) (fun q => absurd q (by decide)) (fun _ => ?_)
        refine J_iload_n (i := 1) hT dX9_deeds_164 rfl rfl ?_
        refine J_bipush (v := 6) hT dX9_deeds_165 rfl ?_
        refine J_icmp_eq (tgt := 176) hT dX9_deeds_167 (by decide) (fun _ => ?_) (fun q => absurd (by decide) q)
        refine J_iload_n (i := 1) hT dX9_deeds_176 rfl rfl ?_
        refine J_iconst (v := 5) hT dX9_deeds_177 rfl ?_
        refine J_icmp_ne (tgt := 191) hT dX9_deeds_178 (by decide) (fun _ => ?_) (fun q => absurd q (by decide))
        refine J_iload_n (i := 1) hT dX9_deeds_191 rfl rfl ?_
        refine J_bipush (v := 6) hT dX9_deeds_192 rfl ?_
        refine J_icmp_ne (tgt := 207) hT dX9_deeds_194 (by decide) (fun q => absurd (by decide) q) (fun _ => ?_)
        refine J_lload_n (i := 2) hT dX9_deeds_197 rfl rfl ?_
        refine J_lload (i := 4) hT dX9_deeds_198 rfl ?_
        refine J_lcmp hT dX9_deeds_200 ?_
        refine J_if_le (tgt := 218) hT dX9_deeds_201 (by decide) (fun q201 => ?_) (fun q201 => ?_)
        · refine J_lconst (v := 0) hT dX9_deeds_218 rfl ?_
          refine J_topll (y := lI (binI 6 a x)) ?_ ?_
          · simp only [ge_iff_le, lg_cmp_le, lg_cmp_ge, lg_cmp_eq, ← Int64.not_lt, Decidable.not_not, lI_lt (show -9223372036854775808 ≤ a by omega) (show a < 9223372036854775808 by omega) (show -9223372036854775808 ≤ x by omega) (show x < 9223372036854775808 by omega), lI_lt (show -9223372036854775808 ≤ x by omega) (show x < 9223372036854775808 by omega) (show -9223372036854775808 ≤ a by omega) (show a < 9223372036854775808 by omega), lI_inj (show -9223372036854775808 ≤ a by omega) (show a < 9223372036854775808 by omega) (show -9223372036854775808 ≤ x by omega) (show x < 9223372036854775808 by omega)] at *
            simp only [binI]
            first
              | (simp [*]; done)
              | (simp [*]; rfl)
          refine S_lstore6 hT dX9_deeds_219 rfl ?_
          refine J_iload_n (i := 1) hT dX9_deeds_221 rfl rfl ?_
          refine J_bipush (v := 8) hT dX9_deeds_222 rfl ?_
          refine J_icmp_eq (tgt := 233) hT dX9_deeds_224 (by decide) (fun q => absurd q (by decide)) (fun _ => ?_)
          refine J_iload_n (i := 1) hT dX9_deeds_227 rfl rfl ?_
          refine J_bipush (v := 9) hT dX9_deeds_228 rfl ?_
          refine J_icmp_ne (tgt := 267) hT dX9_deeds_230 (by decide) (fun _ => ?_) (fun q => absurd q (by decide))
          exact key _ rfl
        · refine J_goto (tgt := 214) hT dX9_deeds_204 (by decide) ?_
          refine J_lconst (v := 1) hT dX9_deeds_214 rfl ?_
          refine J_goto (tgt := 219) hT dX9_deeds_215 (by decide) ?_
          refine J_topll (y := lI (binI 6 a x)) ?_ ?_
          · simp only [ge_iff_le, lg_cmp_le, lg_cmp_ge, lg_cmp_eq, ← Int64.not_lt, Decidable.not_not, lI_lt (show -9223372036854775808 ≤ a by omega) (show a < 9223372036854775808 by omega) (show -9223372036854775808 ≤ x by omega) (show x < 9223372036854775808 by omega), lI_lt (show -9223372036854775808 ≤ x by omega) (show x < 9223372036854775808 by omega) (show -9223372036854775808 ≤ a by omega) (show a < 9223372036854775808 by omega), lI_inj (show -9223372036854775808 ≤ a by omega) (show a < 9223372036854775808 by omega) (show -9223372036854775808 ≤ x by omega) (show x < 9223372036854775808 by omega)] at *
            simp only [binI]
            first
              | (simp [*]; done)
              | (simp [*]; rfl)
          refine S_lstore6 hT dX9_deeds_219 rfl ?_
          refine J_iload_n (i := 1) hT dX9_deeds_221 rfl rfl ?_
          refine J_bipush (v := 8) hT dX9_deeds_222 rfl ?_
          refine J_icmp_eq (tgt := 233) hT dX9_deeds_224 (by decide) (fun q => absurd q (by decide)) (fun _ => ?_)
          refine J_iload_n (i := 1) hT dX9_deeds_227 rfl rfl ?_
          refine J_bipush (v := 9) hT dX9_deeds_228 rfl ?_
          refine J_icmp_ne (tgt := 267) hT dX9_deeds_230 (by decide) (fun _ => ?_) (fun q => absurd q (by decide))
          exact key _ rfl
      · refine J_iload_n (i := 1) hT dX9_deeds_0 rfl rfl ?_
        refine J_iconst (v := 1) hT dX9_deeds_1 rfl ?_
        refine J_icmp_ne (tgt := 29) hT dX9_deeds_2 (by decide) (fun _ => ?_) (fun q => absurd q (by decide))
        refine J_iload_n (i := 1) hT dX9_deeds_29 rfl rfl ?_
        refine J_bipush (v := 10) hT dX9_deeds_30 rfl ?_
        refine J_icmp_ne (tgt := 96) hT dX9_deeds_32 (by decide) (fun _ => ?_) (fun q => absurd q (by decide))
        refine J_aload_n (i := 0) hT dX9_deeds_96 rfl rfl ?_
        refine J_dup hT dX9_deeds_97 rfl ?_
        refine R_getI hT fX9_187 rfl dX9_deeds_98 (rk hS) ?_
        refine J_topil (ht) ?_
        refine J_iconst (v := 1) hT dX9_deeds_101 rfl ?_
        refine J_isub hT dX9_deeds_102 ?_
        refine J_topil (nI_pred (s2.length + 1)) ?_
        refine R_putI hT fX9_187 rfl rfl dX9_deeds_103 (rk hS) ?_
        refine J_aload_n (i := 0) hT dX9_deeds_106 rfl rfl ?_
        refine R_getP hT fX9_122 rfl dX9_deeds_107 (rk hS) (rp_stack hS) ?_
        refine J_aload_n (i := 0) hT dX9_deeds_110 rfl rfl ?_
        refine R_getI hT fX9_187 rfl dX9_deeds_111 (rk hS) ?_
        refine J_topil (zu_eq _ _ _ _) ?_
        refine J_iconst (v := 1) hT dX9_deeds_114 rfl ?_
        refine J_isub hT dX9_deeds_115 ?_
        refine J_topil (nI_pred s2.length) ?_
        refine R_lald hT dX9_deeds_116 (rk_stack hS) (rl_stack hS) (zix_nI (j := s2.length) (by omega) (by decide)) ?_
        refine J_topll (hs.1.2) ?_
        refine S_lstore2 hT dX9_deeds_117 rfl rfl ?_
        refine J_aload_n (i := 0) hT dX9_deeds_118 rfl rfl ?_
        refine R_getP hT fX9_122 rfl dX9_deeds_119 (rk hS) (rp_stack hS) ?_
        refine J_aload_n (i := 0) hT dX9_deeds_122 rfl rfl ?_
        refine R_getI hT fX9_187 rfl dX9_deeds_123 (rk hS) ?_
        refine J_topil (zu_eq _ _ _ _) ?_
        refine R_lald hT dX9_deeds_126 (rk_stack hS) (rl_stack hS) (zix_nI (j := s2.length + 1) (by omega) (by decide)) ?_
        refine J_topll (hs.2) ?_
        refine S_lstore4 hT dX9_deeds_127 rfl ?_
        refine J_iload_n (i := 1) hT dX9_deeds_129 rfl rfl ?_
        refine J_iconst (v := 2) hT dX9_deeds_130 rfl ?_
        refine J_icmp_ne (tgt := 141) hT dX9_deeds_131 (by decide) (fun _ => ?_) (fun q => absurd q (by decide))
        refine J_iload_n (i := 1) hT dX9_deeds_141 rfl rfl ?_
        refine J_iconst (v := 3) hT dX9_deeds_142 rfl ?_
        refine J_icmp_ne (tgt := 153) hT dX9_deeds_143 (by decide) (fun _ => ?_) (fun q => absurd q (by decide))
        refine J_lload_n (i := 2) hT dX9_deeds_153 rfl rfl ?_
        refine J_lload (i := 4) hT dX9_deeds_154 rfl ?_
        refine J_lmul hT dX9_deeds_156 ?_
        refine J_topll (lI_mul a x) ?_
        refine S_lstore6 hT dX9_deeds_157 rfl ?_
        refine J_iload_n (i := 1) hT dX9_deeds_159 rfl rfl ?_
        refine J_iconst (v := 5) hT dX9_deeds_160 rfl ?_
        refine J_icmp_eq (tgt := 176) hT dX9_deeds_161 (by decide) (fun q => absurd q (by decide)) (fun _ => ?_)
        refine J_iload_n (i := 1) hT dX9_deeds_164 rfl rfl ?_
        refine J_bipush (v := 6) hT dX9_deeds_165 rfl ?_
        refine J_icmp_eq (tgt := 176) hT dX9_deeds_167 (by decide) (fun q => absurd q (by decide)) (fun _ => ?_)
        refine J_iload_n (i := 1) hT dX9_deeds_170 rfl rfl ?_
        refine J_bipush (v := 7) hT dX9_deeds_171 rfl ?_
        refine J_icmp_ne (tgt := 221) hT dX9_deeds_173 (by decide) (fun q => absurd (by decide) q) (fun _ => ?_)
        refine J_iload_n (i := 1) hT dX9_deeds_176 rfl rfl ?_
        refine J_iconst (v := 5) hT dX9_deeds_177 rfl ?_
        refine J_icmp_ne (tgt := 191) hT dX9_deeds_178 (by decide) (fun _ => ?_) (fun q => absurd q (by decide))
        refine J_iload_n (i := 1) hT dX9_deeds_191 rfl rfl ?_
        refine J_bipush (v := 6) hT dX9_deeds_192 rfl ?_
        refine J_icmp_ne (tgt := 207) hT dX9_deeds_194 (by decide) (fun _ => ?_) (fun q => absurd q (by decide))
        refine J_lload_n (i := 2) hT dX9_deeds_207 rfl rfl ?_
        refine J_lload (i := 4) hT dX9_deeds_208 rfl ?_
        refine J_lcmp hT dX9_deeds_210 ?_
        refine J_if_ne (tgt := 218) hT dX9_deeds_211 (by decide) (fun q211 => ?_) (fun q211 => ?_)
        · refine J_lconst (v := 0) hT dX9_deeds_218 rfl ?_
          refine J_topll (y := lI (binI 7 a x)) ?_ ?_
          · simp only [ge_iff_le, lg_cmp_le, lg_cmp_ge, lg_cmp_eq, ← Int64.not_lt, Decidable.not_not, lI_lt (show -9223372036854775808 ≤ a by omega) (show a < 9223372036854775808 by omega) (show -9223372036854775808 ≤ x by omega) (show x < 9223372036854775808 by omega), lI_lt (show -9223372036854775808 ≤ x by omega) (show x < 9223372036854775808 by omega) (show -9223372036854775808 ≤ a by omega) (show a < 9223372036854775808 by omega), lI_inj (show -9223372036854775808 ≤ a by omega) (show a < 9223372036854775808 by omega) (show -9223372036854775808 ≤ x by omega) (show x < 9223372036854775808 by omega)] at *
            simp only [binI]
            first
              | (simp [*]; done)
              | (simp [*]; rfl)
          refine S_lstore6 hT dX9_deeds_219 rfl ?_
          refine J_iload_n (i := 1) hT dX9_deeds_221 rfl rfl ?_
          refine J_bipush (v := 8) hT dX9_deeds_222 rfl ?_
          refine J_icmp_eq (tgt := 233) hT dX9_deeds_224 (by decide) (fun q => absurd q (by decide)) (fun _ => ?_)
          refine J_iload_n (i := 1) hT dX9_deeds_227 rfl rfl ?_
          refine J_bipush (v := 9) hT dX9_deeds_228 rfl ?_
          refine J_icmp_ne (tgt := 267) hT dX9_deeds_230 (by decide) (fun _ => ?_) (fun q => absurd q (by decide))
          exact key _ rfl
        · refine J_lconst (v := 1) hT dX9_deeds_214 rfl ?_
          refine J_goto (tgt := 219) hT dX9_deeds_215 (by decide) ?_
          refine J_topll (y := lI (binI 7 a x)) ?_ ?_
          · simp only [ge_iff_le, lg_cmp_le, lg_cmp_ge, lg_cmp_eq, ← Int64.not_lt, Decidable.not_not, lI_lt (show -9223372036854775808 ≤ a by omega) (show a < 9223372036854775808 by omega) (show -9223372036854775808 ≤ x by omega) (show x < 9223372036854775808 by omega), lI_lt (show -9223372036854775808 ≤ x by omega) (show x < 9223372036854775808 by omega) (show -9223372036854775808 ≤ a by omega) (show a < 9223372036854775808 by omega), lI_inj (show -9223372036854775808 ≤ a by omega) (show a < 9223372036854775808 by omega) (show -9223372036854775808 ≤ x by omega) (show x < 9223372036854775808 by omega)] at *
            simp only [binI]
            first
              | (simp [*]; done)
              | (simp [*]; rfl)
          refine S_lstore6 hT dX9_deeds_219 rfl ?_
          refine J_iload_n (i := 1) hT dX9_deeds_221 rfl rfl ?_
          refine J_bipush (v := 8) hT dX9_deeds_222 rfl ?_
          refine J_icmp_eq (tgt := 233) hT dX9_deeds_224 (by decide) (fun q => absurd q (by decide)) (fun _ => ?_)
          refine J_iload_n (i := 1) hT dX9_deeds_227 rfl rfl ?_
          refine J_bipush (v := 9) hT dX9_deeds_228 rfl ?_
          refine J_icmp_ne (tgt := 267) hT dX9_deeds_230 (by decide) (fun _ => ?_) (fun q => absurd q (by decide))
          exact key _ rfl
      · refine J_iload_n (i := 1) hT dX9_deeds_0 rfl rfl ?_
        refine J_iconst (v := 1) hT dX9_deeds_1 rfl ?_
        refine J_icmp_ne (tgt := 29) hT dX9_deeds_2 (by decide) (fun _ => ?_) (fun q => absurd q (by decide))
        refine J_iload_n (i := 1) hT dX9_deeds_29 rfl rfl ?_
        refine J_bipush (v := 10) hT dX9_deeds_30 rfl ?_
        refine J_icmp_ne (tgt := 96) hT dX9_deeds_32 (by decide) (fun _ => ?_) (fun q => absurd q (by decide))
        refine J_aload_n (i := 0) hT dX9_deeds_96 rfl rfl ?_
        refine J_dup hT dX9_deeds_97 rfl ?_
        refine R_getI hT fX9_187 rfl dX9_deeds_98 (rk hS) ?_
        refine J_topil (ht) ?_
        refine J_iconst (v := 1) hT dX9_deeds_101 rfl ?_
        refine J_isub hT dX9_deeds_102 ?_
        refine J_topil (nI_pred (s2.length + 1)) ?_
        refine R_putI hT fX9_187 rfl rfl dX9_deeds_103 (rk hS) ?_
        refine J_aload_n (i := 0) hT dX9_deeds_106 rfl rfl ?_
        refine R_getP hT fX9_122 rfl dX9_deeds_107 (rk hS) (rp_stack hS) ?_
        refine J_aload_n (i := 0) hT dX9_deeds_110 rfl rfl ?_
        refine R_getI hT fX9_187 rfl dX9_deeds_111 (rk hS) ?_
        refine J_topil (zu_eq _ _ _ _) ?_
        refine J_iconst (v := 1) hT dX9_deeds_114 rfl ?_
        refine J_isub hT dX9_deeds_115 ?_
        refine J_topil (nI_pred s2.length) ?_
        refine R_lald hT dX9_deeds_116 (rk_stack hS) (rl_stack hS) (zix_nI (j := s2.length) (by omega) (by decide)) ?_
        refine J_topll (hs.1.2) ?_
        refine S_lstore2 hT dX9_deeds_117 rfl rfl ?_
        refine J_aload_n (i := 0) hT dX9_deeds_118 rfl rfl ?_
        refine R_getP hT fX9_122 rfl dX9_deeds_119 (rk hS) (rp_stack hS) ?_
        refine J_aload_n (i := 0) hT dX9_deeds_122 rfl rfl ?_
        refine R_getI hT fX9_187 rfl dX9_deeds_123 (rk hS) ?_
        refine J_topil (zu_eq _ _ _ _) ?_
        refine R_lald hT dX9_deeds_126 (rk_stack hS) (rl_stack hS) (zix_nI (j := s2.length + 1) (by omega) (by decide)) ?_
        refine J_topll (hs.2) ?_
        refine S_lstore4 hT dX9_deeds_127 rfl ?_
        refine J_iload_n (i := 1) hT dX9_deeds_129 rfl rfl ?_
        refine J_iconst (v := 2) hT dX9_deeds_130 rfl ?_
        refine J_icmp_ne (tgt := 141) hT dX9_deeds_131 (by decide) (fun _ => ?_) (fun q => absurd q (by decide))
        refine J_iload_n (i := 1) hT dX9_deeds_141 rfl rfl ?_
        refine J_iconst (v := 3) hT dX9_deeds_142 rfl ?_
        refine J_icmp_ne (tgt := 153) hT dX9_deeds_143 (by decide) (fun _ => ?_) (fun q => absurd q (by decide))
        refine J_lload_n (i := 2) hT dX9_deeds_153 rfl rfl ?_
        refine J_lload (i := 4) hT dX9_deeds_154 rfl ?_
        refine J_lmul hT dX9_deeds_156 ?_
        refine J_topll (lI_mul a x) ?_
        refine S_lstore6 hT dX9_deeds_157 rfl ?_
        refine J_iload_n (i := 1) hT dX9_deeds_159 rfl rfl ?_
        refine J_iconst (v := 5) hT dX9_deeds_160 rfl ?_
        refine J_icmp_eq (tgt := 176) hT dX9_deeds_161 (by decide) (fun q => absurd q (by decide)) (fun _ => ?_)
        refine J_iload_n (i := 1) hT dX9_deeds_164 rfl rfl ?_
        refine J_bipush (v := 6) hT dX9_deeds_165 rfl ?_
        refine J_icmp_eq (tgt := 176) hT dX9_deeds_167 (by decide) (fun q => absurd q (by decide)) (fun _ => ?_)
        refine J_iload_n (i := 1) hT dX9_deeds_170 rfl rfl ?_
        refine J_bipush (v := 7) hT dX9_deeds_171 rfl ?_
        refine J_icmp_ne (tgt := 221) hT dX9_deeds_173 (by decide) (fun _ => ?_) (fun q => absurd q (by decide))
        refine J_iload_n (i := 1) hT dX9_deeds_221 rfl rfl ?_
        refine J_bipush (v := 8) hT dX9_deeds_222 rfl ?_
        refine J_icmp_eq (tgt := 233) hT dX9_deeds_224 (by decide) (fun _ => ?_) (fun q => absurd (by decide) q)
        refine J_lload_n (i := 2) hT dX9_deeds_233 rfl rfl ?_
        refine J_lload (i := 4) hT dX9_deeds_234 rfl ?_
        refine J_lcmp hT dX9_deeds_236 ?_
        refine J_if_le (tgt := 244) hT dX9_deeds_237 (by decide) (fun q237 => ?_) (fun q237 => ?_)
        · refine J_iconst (v := 0) hT dX9_deeds_244 rfl ?_
          refine J_iload_n (i := 1) hT dX9_deeds_245 rfl rfl ?_
          refine J_bipush (v := 8) hT dX9_deeds_246 rfl ?_
          refine J_icmp_ne (tgt := 255) hT dX9_deeds_248 (by decide) (fun q => absurd (by decide) q) (fun _ => ?_)
          refine J_iconst (v := 1) hT dX9_deeds_251 rfl ?_
          refine J_goto (tgt := 256) hT dX9_deeds_252 (by decide) ?_
          refine J_icmp_ne (tgt := 263) hT dX9_deeds_256 (by decide) (fun q256 => ?_) (fun q256 => ?_)
          · refine J_lload (i := 4) hT dX9_deeds_263 rfl ?_
            refine J_topll (y := lI (binI 8 a x)) ?_ ?_
            · simp only [ge_iff_le, lg_cmp_le, lg_cmp_ge, lg_cmp_eq, ← Int64.not_lt, Decidable.not_not, lI_lt (show -9223372036854775808 ≤ a by omega) (show a < 9223372036854775808 by omega) (show -9223372036854775808 ≤ x by omega) (show x < 9223372036854775808 by omega), lI_lt (show -9223372036854775808 ≤ x by omega) (show x < 9223372036854775808 by omega) (show -9223372036854775808 ≤ a by omega) (show a < 9223372036854775808 by omega), lI_inj (show -9223372036854775808 ≤ a by omega) (show a < 9223372036854775808 by omega) (show -9223372036854775808 ≤ x by omega) (show x < 9223372036854775808 by omega)] at *
              congr 1
              show _ = (if x < a then a else x)
              first
                | (split <;> omega)
                | (exfalso; revert q256; decide)
            refine S_lstore6 hT dX9_deeds_265 rfl ?_
            exact key _ rfl
          · refine J_lload_n (i := 2) hT dX9_deeds_259 rfl rfl ?_
            refine J_goto (tgt := 265) hT dX9_deeds_260 (by decide) ?_
            refine J_topll (y := lI (binI 8 a x)) ?_ ?_
            · simp only [ge_iff_le, lg_cmp_le, lg_cmp_ge, lg_cmp_eq, ← Int64.not_lt, Decidable.not_not, lI_lt (show -9223372036854775808 ≤ a by omega) (show a < 9223372036854775808 by omega) (show -9223372036854775808 ≤ x by omega) (show x < 9223372036854775808 by omega), lI_lt (show -9223372036854775808 ≤ x by omega) (show x < 9223372036854775808 by omega) (show -9223372036854775808 ≤ a by omega) (show a < 9223372036854775808 by omega), lI_inj (show -9223372036854775808 ≤ a by omega) (show a < 9223372036854775808 by omega) (show -9223372036854775808 ≤ x by omega) (show x < 9223372036854775808 by omega)] at *
              congr 1
              show _ = (if x < a then a else x)
              first
                | (split <;> omega)
                | (exfalso; revert q256; decide)
            refine S_lstore6 hT dX9_deeds_265 rfl ?_
            exact key _ rfl
        · refine J_iconst (v := 1) hT dX9_deeds_240 rfl ?_
          refine J_goto (tgt := 245) hT dX9_deeds_241 (by decide) ?_
          refine J_iload_n (i := 1) hT dX9_deeds_245 rfl rfl ?_
          refine J_bipush (v := 8) hT dX9_deeds_246 rfl ?_
          refine J_icmp_ne (tgt := 255) hT dX9_deeds_248 (by decide) (fun q => absurd (by decide) q) (fun _ => ?_)
          refine J_iconst (v := 1) hT dX9_deeds_251 rfl ?_
          refine J_goto (tgt := 256) hT dX9_deeds_252 (by decide) ?_
          refine J_icmp_ne (tgt := 263) hT dX9_deeds_256 (by decide) (fun q256 => ?_) (fun q256 => ?_)
          · refine J_lload (i := 4) hT dX9_deeds_263 rfl ?_
            refine J_topll (y := lI (binI 8 a x)) ?_ ?_
            · simp only [ge_iff_le, lg_cmp_le, lg_cmp_ge, lg_cmp_eq, ← Int64.not_lt, Decidable.not_not, lI_lt (show -9223372036854775808 ≤ a by omega) (show a < 9223372036854775808 by omega) (show -9223372036854775808 ≤ x by omega) (show x < 9223372036854775808 by omega), lI_lt (show -9223372036854775808 ≤ x by omega) (show x < 9223372036854775808 by omega) (show -9223372036854775808 ≤ a by omega) (show a < 9223372036854775808 by omega), lI_inj (show -9223372036854775808 ≤ a by omega) (show a < 9223372036854775808 by omega) (show -9223372036854775808 ≤ x by omega) (show x < 9223372036854775808 by omega)] at *
              congr 1
              show _ = (if x < a then a else x)
              first
                | (split <;> omega)
                | (exfalso; revert q256; decide)
            refine S_lstore6 hT dX9_deeds_265 rfl ?_
            exact key _ rfl
          · refine J_lload_n (i := 2) hT dX9_deeds_259 rfl rfl ?_
            refine J_goto (tgt := 265) hT dX9_deeds_260 (by decide) ?_
            refine J_topll (y := lI (binI 8 a x)) ?_ ?_
            · simp only [ge_iff_le, lg_cmp_le, lg_cmp_ge, lg_cmp_eq, ← Int64.not_lt, Decidable.not_not, lI_lt (show -9223372036854775808 ≤ a by omega) (show a < 9223372036854775808 by omega) (show -9223372036854775808 ≤ x by omega) (show x < 9223372036854775808 by omega), lI_lt (show -9223372036854775808 ≤ x by omega) (show x < 9223372036854775808 by omega) (show -9223372036854775808 ≤ a by omega) (show a < 9223372036854775808 by omega), lI_inj (show -9223372036854775808 ≤ a by omega) (show a < 9223372036854775808 by omega) (show -9223372036854775808 ≤ x by omega) (show x < 9223372036854775808 by omega)] at *
              congr 1
              show _ = (if x < a then a else x)
              first
                | (split <;> omega)
                | (exfalso; revert q256; decide)
            refine S_lstore6 hT dX9_deeds_265 rfl ?_
            exact key _ rfl
      · refine J_iload_n (i := 1) hT dX9_deeds_0 rfl rfl ?_
        refine J_iconst (v := 1) hT dX9_deeds_1 rfl ?_
        refine J_icmp_ne (tgt := 29) hT dX9_deeds_2 (by decide) (fun _ => ?_) (fun q => absurd q (by decide))
        refine J_iload_n (i := 1) hT dX9_deeds_29 rfl rfl ?_
        refine J_bipush (v := 10) hT dX9_deeds_30 rfl ?_
        refine J_icmp_ne (tgt := 96) hT dX9_deeds_32 (by decide) (fun _ => ?_) (fun q => absurd q (by decide))
        refine J_aload_n (i := 0) hT dX9_deeds_96 rfl rfl ?_
        refine J_dup hT dX9_deeds_97 rfl ?_
        refine R_getI hT fX9_187 rfl dX9_deeds_98 (rk hS) ?_
        refine J_topil (ht) ?_
        refine J_iconst (v := 1) hT dX9_deeds_101 rfl ?_
        refine J_isub hT dX9_deeds_102 ?_
        refine J_topil (nI_pred (s2.length + 1)) ?_
        refine R_putI hT fX9_187 rfl rfl dX9_deeds_103 (rk hS) ?_
        refine J_aload_n (i := 0) hT dX9_deeds_106 rfl rfl ?_
        refine R_getP hT fX9_122 rfl dX9_deeds_107 (rk hS) (rp_stack hS) ?_
        refine J_aload_n (i := 0) hT dX9_deeds_110 rfl rfl ?_
        refine R_getI hT fX9_187 rfl dX9_deeds_111 (rk hS) ?_
        refine J_topil (zu_eq _ _ _ _) ?_
        refine J_iconst (v := 1) hT dX9_deeds_114 rfl ?_
        refine J_isub hT dX9_deeds_115 ?_
        refine J_topil (nI_pred s2.length) ?_
        refine R_lald hT dX9_deeds_116 (rk_stack hS) (rl_stack hS) (zix_nI (j := s2.length) (by omega) (by decide)) ?_
        refine J_topll (hs.1.2) ?_
        refine S_lstore2 hT dX9_deeds_117 rfl rfl ?_
        refine J_aload_n (i := 0) hT dX9_deeds_118 rfl rfl ?_
        refine R_getP hT fX9_122 rfl dX9_deeds_119 (rk hS) (rp_stack hS) ?_
        refine J_aload_n (i := 0) hT dX9_deeds_122 rfl rfl ?_
        refine R_getI hT fX9_187 rfl dX9_deeds_123 (rk hS) ?_
        refine J_topil (zu_eq _ _ _ _) ?_
        refine R_lald hT dX9_deeds_126 (rk_stack hS) (rl_stack hS) (zix_nI (j := s2.length + 1) (by omega) (by decide)) ?_
        refine J_topll (hs.2) ?_
        refine S_lstore4 hT dX9_deeds_127 rfl ?_
        refine J_iload_n (i := 1) hT dX9_deeds_129 rfl rfl ?_
        refine J_iconst (v := 2) hT dX9_deeds_130 rfl ?_
        refine J_icmp_ne (tgt := 141) hT dX9_deeds_131 (by decide) (fun _ => ?_) (fun q => absurd q (by decide))
        refine J_iload_n (i := 1) hT dX9_deeds_141 rfl rfl ?_
        refine J_iconst (v := 3) hT dX9_deeds_142 rfl ?_
        refine J_icmp_ne (tgt := 153) hT dX9_deeds_143 (by decide) (fun _ => ?_) (fun q => absurd q (by decide))
        refine J_lload_n (i := 2) hT dX9_deeds_153 rfl rfl ?_
        refine J_lload (i := 4) hT dX9_deeds_154 rfl ?_
        refine J_lmul hT dX9_deeds_156 ?_
        refine J_topll (lI_mul a x) ?_
        refine S_lstore6 hT dX9_deeds_157 rfl ?_
        refine J_iload_n (i := 1) hT dX9_deeds_159 rfl rfl ?_
        refine J_iconst (v := 5) hT dX9_deeds_160 rfl ?_
        refine J_icmp_eq (tgt := 176) hT dX9_deeds_161 (by decide) (fun q => absurd q (by decide)) (fun _ => ?_)
        refine J_iload_n (i := 1) hT dX9_deeds_164 rfl rfl ?_
        refine J_bipush (v := 6) hT dX9_deeds_165 rfl ?_
        refine J_icmp_eq (tgt := 176) hT dX9_deeds_167 (by decide) (fun q => absurd q (by decide)) (fun _ => ?_)
        refine J_iload_n (i := 1) hT dX9_deeds_170 rfl rfl ?_
        refine J_bipush (v := 7) hT dX9_deeds_171 rfl ?_
        refine J_icmp_ne (tgt := 221) hT dX9_deeds_173 (by decide) (fun _ => ?_) (fun q => absurd q (by decide))
        refine J_iload_n (i := 1) hT dX9_deeds_221 rfl rfl ?_
        refine J_bipush (v := 8) hT dX9_deeds_222 rfl ?_
        refine J_icmp_eq (tgt := 233) hT dX9_deeds_224 (by decide) (fun q => absurd q (by decide)) (fun _ => ?_)
        refine J_iload_n (i := 1) hT dX9_deeds_227 rfl rfl ?_
        refine J_bipush (v := 9) hT dX9_deeds_228 rfl ?_
        refine J_icmp_ne (tgt := 267) hT dX9_deeds_230 (by decide) (fun q => absurd (by decide) q) (fun _ => ?_)
        refine J_lload_n (i := 2) hT dX9_deeds_233 rfl rfl ?_
        refine J_lload (i := 4) hT dX9_deeds_234 rfl ?_
        refine J_lcmp hT dX9_deeds_236 ?_
        refine J_if_le (tgt := 244) hT dX9_deeds_237 (by decide) (fun q237 => ?_) (fun q237 => ?_)
        · refine J_iconst (v := 0) hT dX9_deeds_244 rfl ?_
          refine J_iload_n (i := 1) hT dX9_deeds_245 rfl rfl ?_
          refine J_bipush (v := 8) hT dX9_deeds_246 rfl ?_
          refine J_icmp_ne (tgt := 255) hT dX9_deeds_248 (by decide) (fun _ => ?_) (fun q => absurd q (by decide))
          refine J_iconst (v := 0) hT dX9_deeds_255 rfl ?_
          refine J_icmp_ne (tgt := 263) hT dX9_deeds_256 (by decide) (fun q256 => ?_) (fun q256 => ?_)
          · refine J_lload (i := 4) hT dX9_deeds_263 rfl ?_
            refine J_topll (y := lI (binI 9 a x)) ?_ ?_
            · simp only [ge_iff_le, lg_cmp_le, lg_cmp_ge, lg_cmp_eq, ← Int64.not_lt, Decidable.not_not, lI_lt (show -9223372036854775808 ≤ a by omega) (show a < 9223372036854775808 by omega) (show -9223372036854775808 ≤ x by omega) (show x < 9223372036854775808 by omega), lI_lt (show -9223372036854775808 ≤ x by omega) (show x < 9223372036854775808 by omega) (show -9223372036854775808 ≤ a by omega) (show a < 9223372036854775808 by omega), lI_inj (show -9223372036854775808 ≤ a by omega) (show a < 9223372036854775808 by omega) (show -9223372036854775808 ≤ x by omega) (show x < 9223372036854775808 by omega)] at *
              congr 1
              show _ = (if x < a then x else a)
              first
                | (split <;> omega)
                | (exfalso; revert q256; decide)
            refine S_lstore6 hT dX9_deeds_265 rfl ?_
            exact key _ rfl
          · refine J_lload_n (i := 2) hT dX9_deeds_259 rfl rfl ?_
            refine J_goto (tgt := 265) hT dX9_deeds_260 (by decide) ?_
            refine J_topll (y := lI (binI 9 a x)) ?_ ?_
            · simp only [ge_iff_le, lg_cmp_le, lg_cmp_ge, lg_cmp_eq, ← Int64.not_lt, Decidable.not_not, lI_lt (show -9223372036854775808 ≤ a by omega) (show a < 9223372036854775808 by omega) (show -9223372036854775808 ≤ x by omega) (show x < 9223372036854775808 by omega), lI_lt (show -9223372036854775808 ≤ x by omega) (show x < 9223372036854775808 by omega) (show -9223372036854775808 ≤ a by omega) (show a < 9223372036854775808 by omega), lI_inj (show -9223372036854775808 ≤ a by omega) (show a < 9223372036854775808 by omega) (show -9223372036854775808 ≤ x by omega) (show x < 9223372036854775808 by omega)] at *
              congr 1
              show _ = (if x < a then x else a)
              first
                | (split <;> omega)
                | (exfalso; revert q256; decide)
            refine S_lstore6 hT dX9_deeds_265 rfl ?_
            exact key _ rfl
        · refine J_iconst (v := 1) hT dX9_deeds_240 rfl ?_
          refine J_goto (tgt := 245) hT dX9_deeds_241 (by decide) ?_
          refine J_iload_n (i := 1) hT dX9_deeds_245 rfl rfl ?_
          refine J_bipush (v := 8) hT dX9_deeds_246 rfl ?_
          refine J_icmp_ne (tgt := 255) hT dX9_deeds_248 (by decide) (fun _ => ?_) (fun q => absurd q (by decide))
          refine J_iconst (v := 0) hT dX9_deeds_255 rfl ?_
          refine J_icmp_ne (tgt := 263) hT dX9_deeds_256 (by decide) (fun q256 => ?_) (fun q256 => ?_)
          · refine J_lload (i := 4) hT dX9_deeds_263 rfl ?_
            refine J_topll (y := lI (binI 9 a x)) ?_ ?_
            · simp only [ge_iff_le, lg_cmp_le, lg_cmp_ge, lg_cmp_eq, ← Int64.not_lt, Decidable.not_not, lI_lt (show -9223372036854775808 ≤ a by omega) (show a < 9223372036854775808 by omega) (show -9223372036854775808 ≤ x by omega) (show x < 9223372036854775808 by omega), lI_lt (show -9223372036854775808 ≤ x by omega) (show x < 9223372036854775808 by omega) (show -9223372036854775808 ≤ a by omega) (show a < 9223372036854775808 by omega), lI_inj (show -9223372036854775808 ≤ a by omega) (show a < 9223372036854775808 by omega) (show -9223372036854775808 ≤ x by omega) (show x < 9223372036854775808 by omega)] at *
              congr 1
              show _ = (if x < a then x else a)
              first
                | (split <;> omega)
                | (exfalso; revert q256; decide)
            refine S_lstore6 hT dX9_deeds_265 rfl ?_
            exact key _ rfl
          · refine J_lload_n (i := 2) hT dX9_deeds_259 rfl rfl ?_
            refine J_goto (tgt := 265) hT dX9_deeds_260 (by decide) ?_
            refine J_topll (y := lI (binI 9 a x)) ?_ ?_
            · simp only [ge_iff_le, lg_cmp_le, lg_cmp_ge, lg_cmp_eq, ← Int64.not_lt, Decidable.not_not, lI_lt (show -9223372036854775808 ≤ a by omega) (show a < 9223372036854775808 by omega) (show -9223372036854775808 ≤ x by omega) (show x < 9223372036854775808 by omega), lI_lt (show -9223372036854775808 ≤ x by omega) (show x < 9223372036854775808 by omega) (show -9223372036854775808 ≤ a by omega) (show a < 9223372036854775808 by omega), lI_inj (show -9223372036854775808 ≤ a by omega) (show a < 9223372036854775808 by omega) (show -9223372036854775808 ≤ x by omega) (show x < 9223372036854775808 by omega)] at *
              congr 1
              show _ = (if x < a then x else a)
              first
                | (split <;> omega)
                | (exfalso; revert q256; decide)
            refine S_lstore6 hT dX9_deeds_265 rfl ?_
            exact key _ rfl
