
def letB (a : Int32) : Bool := figB a || (funB a || (namB a || (decide (0 < deedN a) || (decide (a = 40) || (decide (a = 41) || decide (a = 44))))))

set_option maxRecDepth 100000 in
set_option maxHeartbeats 4000000 in
theorem c_X9_type_no {l : Launch} {Z : zZ} (hZ : zSt l Z) {μ : zMem} {σ : Nat → Nat → Int32} {π : Nat → Nat → Option Nat} {g : Nat → Nat → Int64} (hS : zRef μ π) {a t : Int32} (hG : goesN (zbi (letB a)) (zbi (decide (σ 67 1 < 30))) 1 = t) (ht : t ≠ 0) : zCt l Z mX9_type 2 0 0 [.ref 67, .int a] (zA4 μ σ π g) (fun r μ' => r = some (.int 0) ∧ μ' = zA4 μ (zu σ 67 45 t) π g) := by
  refine zCt_of hZ mpX9_type (Nat.le_of_ble_eq_true rfl) (L := [some (.ref 67), some (.int a), none]) rfl (fun τ hY => ?_)
  have hT := hY.1
  have mid : zJ τ (zFn τ (fun r μ' => r = some (.int 0) ∧ μ' = zA4 μ (zu σ 67 45 t) π g) 0 0) 51 [some (.ref 67), some (.int a), none] [.int (zbi (letB a))] (zA4 μ σ π g) 0 0 := by
    refine S_istore2 hT dX9_type_51 rfl rfl ?_
    refine J_aload_n (i := 0) hT dX9_type_52 rfl rfl ?_
    refine J_iload_n (i := 2) hT dX9_type_53 rfl rfl ?_
    refine J_aload_n (i := 0) hT dX9_type_54 rfl rfl ?_
    refine R_getI hT fX9_147 rfl dX9_type_55 (rk hS) ?_
    refine J_bipush (v := 30) hT dX9_type_58 rfl ?_
    refine J_icmp_ge (tgt := 67) hT dX9_type_60 (by decide) (fun q60 => ?_) (fun q60 => ?_)
    · refine J_iconst (v := 0) hT dX9_type_67 rfl ?_
      refine J_topil (y := zbi (decide (σ 67 1 < 30))) (by simp_all [zbi]) ?_
      refine J_iconst (v := 1) hT dX9_type_68 rfl ?_
      refine R_callV1 (ci := 9) hY dX9_type_69 mfX9_goes miX9_goes msX9_goes kX9_150 ⟨by decide, rfl⟩ (rk hS) (c_X9_goes hZ hS) rfl (by decide) rfl rfl (Nat.le_of_ble_eq_true rfl) (Nat.le_refl _) (Nat.le_refl _) ?_
      rw [hG]
      refine J_topil (zt0 ht) ?_
      refine J_if_ne (tgt := 77) hT dX9_type_72 (by decide) (fun q => absurd (rfl) q) (fun _ => ?_)
      refine J_iconst (v := 0) hT dX9_type_75 rfl ?_
      exact J_iret hT dX9_type_76 rfl rfl (⟨rfl, rfl⟩) (Nat.le_refl _) (Nat.le_refl _)
    · refine J_iconst (v := 1) hT dX9_type_63 rfl ?_
      refine J_goto (tgt := 68) hT dX9_type_64 (by decide) ?_
      refine J_topil (y := zbi (decide (σ 67 1 < 30))) (by simp_all [zbi]) ?_
      refine J_iconst (v := 1) hT dX9_type_68 rfl ?_
      refine R_callV1 (ci := 9) hY dX9_type_69 mfX9_goes miX9_goes msX9_goes kX9_150 ⟨by decide, rfl⟩ (rk hS) (c_X9_goes hZ hS) rfl (by decide) rfl rfl (Nat.le_of_ble_eq_true rfl) (Nat.le_refl _) (Nat.le_refl _) ?_
      rw [hG]
      refine J_topil (zt0 ht) ?_
      refine J_if_ne (tgt := 77) hT dX9_type_72 (by decide) (fun q => absurd (rfl) q) (fun _ => ?_)
      refine J_iconst (v := 0) hT dX9_type_75 rfl ?_
      exact J_iret hT dX9_type_76 rfl rfl (⟨rfl, rfl⟩) (Nat.le_refl _) (Nat.le_refl _)
  refine J_iload_n (i := 1) hT dX9_type_0 rfl rfl ?_
  refine R_callS1 hY dX9_type_1 mfX9_isFigure mtX9_isFigure kX9_133 (c_X9_isFigure hZ) rfl (by decide) rfl rfl (Nat.le_of_ble_eq_true rfl) (Nat.le_refl _) (Nat.le_refl _) ?_
  refine J_if_ne (tgt := 46) hT dX9_type_4 (by decide) (fun q4 => ?_) (fun q4 => ?_)
  · refine J_iconst (v := 1) hT dX9_type_46 rfl ?_
    refine J_goto (tgt := 51) hT dX9_type_47 (by decide) ?_
    refine J_topil (y := zbi (letB a)) (by clear mid; simp_all [letB, zbi]) ?_
    exact mid
  · refine J_iload_n (i := 1) hT dX9_type_7 rfl rfl ?_
    refine R_callS1 hY dX9_type_8 mfX9_isFunction mtX9_isFunction kX9_137 (c_X9_isFunction hZ) rfl (by decide) rfl rfl (Nat.le_of_ble_eq_true rfl) (Nat.le_refl _) (Nat.le_refl _) ?_
    refine J_if_ne (tgt := 46) hT dX9_type_11 (by decide) (fun q11 => ?_) (fun q11 => ?_)
    · refine J_iconst (v := 1) hT dX9_type_46 rfl ?_
      refine J_goto (tgt := 51) hT dX9_type_47 (by decide) ?_
      refine J_topil (y := zbi (letB a)) (by clear mid; simp_all [letB, zbi]) ?_
      exact mid
    · refine J_iload_n (i := 1) hT dX9_type_14 rfl rfl ?_
      refine R_callS1 hY dX9_type_15 mfX9_isName mtX9_isName kX9_140 (c_X9_isName hZ) rfl (by decide) rfl rfl (Nat.le_of_ble_eq_true rfl) (Nat.le_refl _) (Nat.le_refl _) ?_
      refine J_if_ne (tgt := 46) hT dX9_type_18 (by decide) (fun q18 => ?_) (fun q18 => ?_)
      · refine J_iconst (v := 1) hT dX9_type_46 rfl ?_
        refine J_goto (tgt := 51) hT dX9_type_47 (by decide) ?_
        refine J_topil (y := zbi (letB a)) (by clear mid; simp_all [letB, zbi]) ?_
        exact mid
      · refine J_iload_n (i := 1) hT dX9_type_21 rfl rfl ?_
        refine R_callS1 hY dX9_type_22 mfX9_deedOf mtX9_deedOf kX9_143 (c_X9_deedOf hZ) rfl (by decide) rfl rfl (Nat.le_of_ble_eq_true rfl) (Nat.le_refl _) (Nat.le_refl _) ?_
        refine J_if_gt (tgt := 46) hT dX9_type_25 (by decide) (fun q25 => ?_) (fun q25 => ?_)
        · refine J_iconst (v := 1) hT dX9_type_46 rfl ?_
          refine J_goto (tgt := 51) hT dX9_type_47 (by decide) ?_
          refine J_topil (y := zbi (letB a)) (by clear mid; simp_all [letB, zbi]) ?_
          exact mid
        · refine J_iload_n (i := 1) hT dX9_type_28 rfl rfl ?_
          refine J_bipush (v := 40) hT dX9_type_29 rfl ?_
          refine J_icmp_eq (tgt := 46) hT dX9_type_31 (by decide) (fun q31 => ?_) (fun q31 => ?_)
          · refine J_iconst (v := 1) hT dX9_type_46 rfl ?_
            refine J_goto (tgt := 51) hT dX9_type_47 (by decide) ?_
            refine J_topil (y := zbi (letB a)) (by clear mid; simp_all [letB, zbi]) ?_
            exact mid
          · refine J_iload_n (i := 1) hT dX9_type_34 rfl rfl ?_
            refine J_bipush (v := 41) hT dX9_type_35 rfl ?_
            refine J_icmp_eq (tgt := 46) hT dX9_type_37 (by decide) (fun q37 => ?_) (fun q37 => ?_)
            · refine J_iconst (v := 1) hT dX9_type_46 rfl ?_
              refine J_goto (tgt := 51) hT dX9_type_47 (by decide) ?_
              refine J_topil (y := zbi (letB a)) (by clear mid; simp_all [letB, zbi]) ?_
              exact mid
            · refine J_iload_n (i := 1) hT dX9_type_40 rfl rfl ?_
              refine J_bipush (v := 44) hT dX9_type_41 rfl ?_
              refine J_icmp_ne (tgt := 50) hT dX9_type_43 (by decide) (fun q43 => ?_) (fun q43 => ?_)
              · refine J_iconst (v := 0) hT dX9_type_50 rfl ?_
                refine J_topil (y := zbi (letB a)) (by clear mid; simp_all [letB, zbi]) ?_
                exact mid
              · refine J_iconst (v := 1) hT dX9_type_46 rfl ?_
                refine J_goto (tgt := 51) hT dX9_type_47 (by decide) ?_
                refine J_topil (y := zbi (letB a)) (by clear mid; simp_all [letB, zbi]) ?_
                exact mid

set_option maxRecDepth 100000 in
set_option maxHeartbeats 4000000 in
theorem c_X9_type_ok {l : Launch} {Z : zZ} (hZ : zSt l Z) {μ : zMem} {σ : Nat → Nat → Int32} {π : Nat → Nat → Option Nat} {g : Nat → Nat → Int64} (hS : zRef μ π) {a : Int32} {n : Nat} (hn : n < 30) (hL : σ 67 1 = nI n) (ha : letB a = true) : zCt l Z mX9_type 2 0 0 [.ref 67, .int a] (zA4 μ σ π g) (fun r μ' => r = some (.int (nI (n + 1))) ∧ μ' = zA4 μ (zu (zu (zu σ 67 45 0) 68 n a) 67 1 (nI (n + 1))) π g) := by
  refine zCt_of hZ mpX9_type (Nat.le_of_ble_eq_true rfl) (L := [some (.ref 67), some (.int a), none]) rfl (fun τ hY => ?_)
  have hT := hY.1
  have mid : zJ τ (zFn τ (fun r μ' => r = some (.int (nI (n + 1))) ∧ μ' = zA4 μ (zu (zu (zu σ 67 45 0) 68 n a) 67 1 (nI (n + 1))) π g) 0 0) 51 [some (.ref 67), some (.int a), none] [.int (zbi (letB a))] (zA4 μ σ π g) 0 0 := by
    refine S_istore2 hT dX9_type_51 rfl rfl ?_
    refine J_aload_n (i := 0) hT dX9_type_52 rfl rfl ?_
    refine J_iload_n (i := 2) hT dX9_type_53 rfl rfl ?_
    refine J_aload_n (i := 0) hT dX9_type_54 rfl rfl ?_
    refine R_getI hT fX9_147 rfl dX9_type_55 (rk hS) ?_
    refine J_topil (hL) ?_
    refine J_bipush (v := 30) hT dX9_type_58 rfl ?_
    refine J_icmp_ge (tgt := 67) hT dX9_type_60 (by decide) (fun q => absurd q (Int32.not_le.mpr (nI_lt (a := n) (b := 30) hn (by decide)))) (fun _ => ?_)
    refine J_iconst (v := 1) hT dX9_type_63 rfl ?_
    refine J_goto (tgt := 68) hT dX9_type_64 (by decide) ?_
    refine J_iconst (v := 1) hT dX9_type_68 rfl ?_
    refine R_callV1 (ci := 9) hY dX9_type_69 mfX9_goes miX9_goes msX9_goes kX9_150 ⟨by decide, rfl⟩ (rk hS) (c_X9_goes hZ hS) rfl (by decide) rfl rfl (Nat.le_of_ble_eq_true rfl) (Nat.le_refl _) (Nat.le_refl _) ?_
    rw [ha, zbi_t, g111]
    refine J_topil (z00) ?_
    refine J_if_ne (tgt := 77) hT dX9_type_72 (by decide) (fun _ => ?_) (fun q => absurd q (by decide))
    refine J_aload_n (i := 0) hT dX9_type_77 rfl rfl ?_
    refine R_getP hT fX9_7 rfl dX9_type_78 (rk hS) (rp_text hS) ?_
    refine J_aload_n (i := 0) hT dX9_type_81 rfl rfl ?_
    refine R_getI hT fX9_147 rfl dX9_type_82 (rk hS) ?_
    refine J_topil (((show zu σ 67 45 0 67 1 = nI n by simp [zu, hL]))) ?_
    refine J_iload_n (i := 1) hT dX9_type_85 rfl rfl ?_
    refine R_iast hT dX9_type_86 (rk_text hS) (rl_text hS) (zix_nI hn (by decide)) ?_
    refine J_aload_n (i := 0) hT dX9_type_87 rfl rfl ?_
    refine J_dup hT dX9_type_88 rfl ?_
    refine R_getI hT fX9_147 rfl dX9_type_89 (rk hS) ?_
    refine J_topil ((show zu (zu σ 67 45 0) 68 n a 67 1 = nI n by simp [zu, hL])) ?_
    refine J_iconst (v := 1) hT dX9_type_92 rfl ?_
    refine J_iadd hT dX9_type_93 ?_
    refine J_topil (nI_1 n) ?_
    refine R_putI hT fX9_147 rfl rfl dX9_type_94 (rk hS) ?_
    refine J_aload_n (i := 0) hT dX9_type_97 rfl rfl ?_
    refine R_getI hT fX9_147 rfl dX9_type_98 (rk hS) ?_
    refine J_topil (zu_eq _ _ _ _) ?_
    exact J_iret hT dX9_type_101 rfl rfl (⟨rfl, rfl⟩) (Nat.le_refl _) (Nat.le_refl _)
  refine J_iload_n (i := 1) hT dX9_type_0 rfl rfl ?_
  refine R_callS1 hY dX9_type_1 mfX9_isFigure mtX9_isFigure kX9_133 (c_X9_isFigure hZ) rfl (by decide) rfl rfl (Nat.le_of_ble_eq_true rfl) (Nat.le_refl _) (Nat.le_refl _) ?_
  refine J_if_ne (tgt := 46) hT dX9_type_4 (by decide) (fun q4 => ?_) (fun q4 => ?_)
  · refine J_iconst (v := 1) hT dX9_type_46 rfl ?_
    refine J_goto (tgt := 51) hT dX9_type_47 (by decide) ?_
    refine J_topil (y := zbi (letB a)) (by clear mid; simp_all [letB, zbi]) ?_
    exact mid
  · refine J_iload_n (i := 1) hT dX9_type_7 rfl rfl ?_
    refine R_callS1 hY dX9_type_8 mfX9_isFunction mtX9_isFunction kX9_137 (c_X9_isFunction hZ) rfl (by decide) rfl rfl (Nat.le_of_ble_eq_true rfl) (Nat.le_refl _) (Nat.le_refl _) ?_
    refine J_if_ne (tgt := 46) hT dX9_type_11 (by decide) (fun q11 => ?_) (fun q11 => ?_)
    · refine J_iconst (v := 1) hT dX9_type_46 rfl ?_
      refine J_goto (tgt := 51) hT dX9_type_47 (by decide) ?_
      refine J_topil (y := zbi (letB a)) (by clear mid; simp_all [letB, zbi]) ?_
      exact mid
    · refine J_iload_n (i := 1) hT dX9_type_14 rfl rfl ?_
      refine R_callS1 hY dX9_type_15 mfX9_isName mtX9_isName kX9_140 (c_X9_isName hZ) rfl (by decide) rfl rfl (Nat.le_of_ble_eq_true rfl) (Nat.le_refl _) (Nat.le_refl _) ?_
      refine J_if_ne (tgt := 46) hT dX9_type_18 (by decide) (fun q18 => ?_) (fun q18 => ?_)
      · refine J_iconst (v := 1) hT dX9_type_46 rfl ?_
        refine J_goto (tgt := 51) hT dX9_type_47 (by decide) ?_
        refine J_topil (y := zbi (letB a)) (by clear mid; simp_all [letB, zbi]) ?_
        exact mid
      · refine J_iload_n (i := 1) hT dX9_type_21 rfl rfl ?_
        refine R_callS1 hY dX9_type_22 mfX9_deedOf mtX9_deedOf kX9_143 (c_X9_deedOf hZ) rfl (by decide) rfl rfl (Nat.le_of_ble_eq_true rfl) (Nat.le_refl _) (Nat.le_refl _) ?_
        refine J_if_gt (tgt := 46) hT dX9_type_25 (by decide) (fun q25 => ?_) (fun q25 => ?_)
        · refine J_iconst (v := 1) hT dX9_type_46 rfl ?_
          refine J_goto (tgt := 51) hT dX9_type_47 (by decide) ?_
          refine J_topil (y := zbi (letB a)) (by clear mid; simp_all [letB, zbi]) ?_
          exact mid
        · refine J_iload_n (i := 1) hT dX9_type_28 rfl rfl ?_
          refine J_bipush (v := 40) hT dX9_type_29 rfl ?_
          refine J_icmp_eq (tgt := 46) hT dX9_type_31 (by decide) (fun q31 => ?_) (fun q31 => ?_)
          · refine J_iconst (v := 1) hT dX9_type_46 rfl ?_
            refine J_goto (tgt := 51) hT dX9_type_47 (by decide) ?_
            refine J_topil (y := zbi (letB a)) (by clear mid; simp_all [letB, zbi]) ?_
            exact mid
          · refine J_iload_n (i := 1) hT dX9_type_34 rfl rfl ?_
            refine J_bipush (v := 41) hT dX9_type_35 rfl ?_
            refine J_icmp_eq (tgt := 46) hT dX9_type_37 (by decide) (fun q37 => ?_) (fun q37 => ?_)
            · refine J_iconst (v := 1) hT dX9_type_46 rfl ?_
              refine J_goto (tgt := 51) hT dX9_type_47 (by decide) ?_
              refine J_topil (y := zbi (letB a)) (by clear mid; simp_all [letB, zbi]) ?_
              exact mid
            · refine J_iload_n (i := 1) hT dX9_type_40 rfl rfl ?_
              refine J_bipush (v := 44) hT dX9_type_41 rfl ?_
              refine J_icmp_ne (tgt := 50) hT dX9_type_43 (by decide) (fun q43 => ?_) (fun q43 => ?_)
              · refine J_iconst (v := 0) hT dX9_type_50 rfl ?_
                refine J_topil (y := zbi (letB a)) (by clear mid; simp_all [letB, zbi]) ?_
                exact mid
              · refine J_iconst (v := 1) hT dX9_type_46 rfl ?_
                refine J_goto (tgt := 51) hT dX9_type_47 (by decide) ?_
                refine J_topil (y := zbi (letB a)) (by clear mid; simp_all [letB, zbi]) ?_
                exact mid
