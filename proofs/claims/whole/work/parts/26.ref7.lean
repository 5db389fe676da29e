theorem zbiw_0 {A B : Prop} [Decidable A] [Decidable B] : zbi (decide A && decide B) = 0 ↔ ¬ (A ∧ B) := by rw [zbi_0, Bool.eq_false_iff, ne_eq, Bool.and_eq_true, decide_eq_true_eq, decide_eq_true_eq]
theorem zbiw_ne {A B : Prop} [Decidable A] [Decidable B] : ¬ zbi (decide A && decide B) = 0 ↔ (A ∧ B) := by rw [zbi_ne, Bool.and_eq_true, decide_eq_true_eq, decide_eq_true_eq]

set_option maxRecDepth 100000 in
set_option maxHeartbeats 4000000 in
theorem c_X9_gives {l : Launch} {Z : zZ} (hZ : zSt l Z) {μ : zMem} {σ : Nat → Nat → Int32} {π : Nat → Nat → Option Nat} {g : Nat → Nat → Int64} (hS : zRef μ π) {c st n0 : Nat} (hc : c < 12) (hst : st < 40) (hn0 : n0 ≤ 30) (hn : σ 104 st = nI n0) : zCt l Z mX9_gives 2 0 0 [.ref 67, .int (nI c), .int (nI st)] (zA4 μ σ π g) (fun r μ' => r = none ∧ μ' = zA4 μ (giveF σ c st n0) π g) := by
  refine zCt_of hZ mpX9_gives (Nat.le_of_ble_eq_true rfl) (L := [some (.ref 67), some (.int (nI c)), some (.int (nI st)), none, none]) rfl (fun τ hY => ?_)
  have hT := hY.1
  have loop2 : ∀ n i, i + n = 12 → zJ τ (zFn τ (fun r μ' => r = none ∧ μ' = zA4 μ (giveF σ c st n0) π g) 0 0) 184 [some (.ref 67), some (.int (nI c)), some (.int (nI st)), some (.int (nI i)), none] [] (zA4 μ (dzP (gvP σ c st n0) i) π g) 0 0 := by
    intro n
    induction n with
    | zero =>
      intro i hi
      have : i = 12 := by omega
      subst this
      refine J_iload_n (i := 3) hT dX9_gives_184 rfl rfl ?_
      refine J_bipush (v := 12) hT dX9_gives_185 rfl ?_
      refine J_icmp_ge (tgt := 203) hT dX9_gives_187 (by decide) (fun _ => ?_) (fun q => absurd (nI_le (a := 12) (b := 12) (by decide) (by decide)) q)
      refine J_aload_n (i := 0) hT dX9_gives_203 rfl rfl ?_
      refine R_callV0 (ci := 9) hY dX9_gives_204 mfX9_deepens miX9_deepens msX9_deepens kX9_259 ⟨by decide, rfl⟩ (rk hS) (c_X9_deepens hZ hS) rfl (by decide) rfl rfl (Nat.le_of_ble_eq_true rfl) (Nat.le_refl _) (Nat.le_refl _) ?_
      refine J_aload_n (i := 0) hT dX9_gives_207 rfl rfl ?_
      refine R_getP hT fX9_74 rfl dX9_gives_208 (rk hS) (rp_isDirty hS) ?_
      refine J_iload_n (i := 1) hT dX9_gives_211 rfl rfl ?_
      refine J_aload_n (i := 0) hT dX9_gives_212 rfl rfl ?_
      refine R_getP hT fX9_47 rfl dX9_gives_213 (rk hS) (rp_isHeld hS) ?_
      refine J_iload_n (i := 1) hT dX9_gives_216 rfl rfl ?_
      refine R_zald hT dX9_gives_217 (rk_isHeld hS) (rl_isHeld hS) (by first | exact ⟨rfl, by decide⟩ | exact zix_nI (by omega) (by decide) | assumption) ?_
      refine J_if_ne (tgt := 225) hT dX9_gives_218 (by decide) (fun q218 => ?_) (fun q218 => ?_)
      · refine J_iconst (v := 0) hT dX9_gives_225 rfl ?_
        refine R_zast hT dX9_gives_226 (rk_isDirty hS) (rl_isDirty hS) (by first | exact ⟨rfl, by decide⟩ | exact zix_nI (by omega) (by decide) | assumption) (by decide) ?_
        exact J_vret hT dX9_gives_227 rfl (⟨rfl, by simp_all [giveF]⟩) (Nat.le_refl _) (Nat.le_refl _)
      · refine J_iconst (v := 1) hT dX9_gives_221 rfl ?_
        refine J_goto (tgt := 226) hT dX9_gives_222 (by decide) ?_
        refine R_zast hT dX9_gives_226 (rk_isDirty hS) (rl_isDirty hS) (by first | exact ⟨rfl, by decide⟩ | exact zix_nI (by omega) (by decide) | assumption) (by decide) ?_
        exact J_vret hT dX9_gives_227 rfl (⟨rfl, by simp_all [giveF]⟩) (Nat.le_refl _) (Nat.le_refl _)
    | succ n ih =>
      intro i hi
      refine J_iload_n (i := 3) hT dX9_gives_184 rfl rfl ?_
      refine J_bipush (v := 12) hT dX9_gives_185 rfl ?_
      refine J_icmp_ge (tgt := 203) hT dX9_gives_187 (by decide) (fun q => absurd q (Int32.not_le.mpr (nI_lt (a := i) (b := 12) (by omega) (by decide)))) (fun _ => ?_)
      refine J_aload_n (i := 0) hT dX9_gives_190 rfl rfl ?_
      refine R_getP hT fX9_44 rfl dX9_gives_191 (rk hS) (rp_depth hS) ?_
      refine J_iload_n (i := 3) hT dX9_gives_194 rfl rfl ?_
      refine J_iconst (v := 0) hT dX9_gives_195 rfl ?_
      refine R_iast hT dX9_gives_196 (rk_depth hS) (rl_depth hS) (by first | exact ⟨rfl, by decide⟩ | exact zix_nI (by omega) (by decide) | assumption) ?_
      refine S_iinc3 hT dX9_gives_197 (nI_inc _) rfl ?_
      refine J_goto (tgt := 184) hT dX9_gives_200 (by decide) ?_
      refine J_mu (congrArg (fun s => zA4 μ s π g) (dzP_s _ i)) (ih (i + 1) (by omega))
  have loop : ∀ n i, i + n = n0 → zJ τ (zFn τ (fun r μ' => r = none ∧ μ' = zA4 μ (giveF σ c st n0) π g) 0 0) 35 [some (.ref 67), some (.int (nI c)), some (.int (nI st)), some (.int (nI i)), none] [] (zA4 μ (gvP σ c st i) π g) 0 0 := by
    intro n
    induction n with
    | zero =>
      intro i hi
      have : i = n0 := by omega
      subst this
      refine J_iload_n (i := 3) hT dX9_gives_35 rfl rfl ?_
      refine J_aload_n (i := 0) hT dX9_gives_36 rfl rfl ?_
      refine R_getP hT fX9_119 rfl dX9_gives_37 (rk hS) (rp_stepLength hS) ?_
      refine J_iload_n (i := 2) hT dX9_gives_40 rfl rfl ?_
      refine R_iald hT dX9_gives_41 (rk_stepLength hS) (rl_stepLength hS) (by first | exact ⟨rfl, by decide⟩ | exact zix_nI (by omega) (by decide) | assumption) ?_
      refine J_topil ((gvP_ne σ c st i _ (by decide) (by decide) (by decide) (by decide) (by decide)).trans hn) ?_
      refine J_icmp_ge (tgt := 182) hT dX9_gives_42 (by decide) (fun _ => ?_) (fun q => absurd (nI_le (Nat.le_refl _) (by omega)) q)
      refine J_iconst (v := 0) hT dX9_gives_182 rfl ?_
      refine S_istore3 hT dX9_gives_183 rfl rfl ?_
      refine J_mu (congrArg (fun s => zA4 μ s π g) ((dzP_0 _).symm)) (loop2 12 0 rfl)
    | succ n ih =>
      intro i hi
      refine J_iload_n (i := 3) hT dX9_gives_35 rfl rfl ?_
      refine J_aload_n (i := 0) hT dX9_gives_36 rfl rfl ?_
      refine R_getP hT fX9_119 rfl dX9_gives_37 (rk hS) (rp_stepLength hS) ?_
      refine J_iload_n (i := 2) hT dX9_gives_40 rfl rfl ?_
      refine R_iald hT dX9_gives_41 (rk_stepLength hS) (rl_stepLength hS) (by first | exact ⟨rfl, by decide⟩ | exact zix_nI (by omega) (by decide) | assumption) ?_
      refine J_topil ((gvP_ne σ c st i _ (by decide) (by decide) (by decide) (by decide) (by decide)).trans hn) ?_
      refine J_icmp_ge (tgt := 182) hT dX9_gives_42 (by decide) (fun q => absurd q (Int32.not_le.mpr (nI_lt (a := i) (b := n0) (by omega) (by omega)))) (fun _ => ?_)
      refine J_aload_n (i := 0) hT dX9_gives_45 rfl rfl ?_
      refine R_getP hT fX9_116 rfl dX9_gives_46 (rk hS) (rp_stepCode hS) ?_
      refine J_bipush (v := 30) hT dX9_gives_49 rfl ?_
      refine J_iload_n (i := 2) hT dX9_gives_51 rfl rfl ?_
      refine J_imul hT dX9_gives_52 ?_
      refine J_topil (nI_mul 30 st) ?_
      refine J_iload_n (i := 3) hT dX9_gives_53 rfl rfl ?_
      refine J_iadd hT dX9_gives_54 ?_
      refine J_topil (nI_add (30 * st) i) ?_
      refine R_iald hT dX9_gives_55 (rk_stepCode hS) (rl_stepCode hS) (zix_nI (j := 30 * st + i) (by omega) (by decide)) ?_
      refine J_topil ((gvP_ne σ c st i _ (by decide) (by decide) (by decide) (by decide) (by decide))) ?_
      refine S_istore4 hT dX9_gives_56 rfl ?_
      refine J_aload_n (i := 0) hT dX9_gives_58 rfl rfl ?_
      refine R_getP hT fX9_29 rfl dX9_gives_59 (rk hS) (rp_code hS) ?_
      refine J_bipush (v := 30) hT dX9_gives_62 rfl ?_
      refine J_iload_n (i := 1) hT dX9_gives_64 rfl rfl ?_
      refine J_imul hT dX9_gives_65 ?_
      refine J_topil (nI_mul 30 c) ?_
      refine J_iload_n (i := 3) hT dX9_gives_66 rfl rfl ?_
      refine J_iadd hT dX9_gives_67 ?_
      refine J_topil (nI_add (30 * c) i) ?_
      refine J_iload (i := 4) hT dX9_gives_68 rfl ?_
      refine R_iast hT dX9_gives_70 (rk_code hS) (rl_code hS) (zix_nI (j := 30 * c + i) (by omega) (by decide)) ?_
      refine J_aload_n (i := 0) hT dX9_gives_71 rfl rfl ?_
      refine R_getP hT fX9_35 rfl dX9_gives_72 (rk hS) (rp_readsCells hS) ?_
      refine J_iload_n (i := 1) hT dX9_gives_75 rfl rfl ?_
      refine J_dup2 hT dX9_gives_76 rfl rfl ?_
      refine R_iald hT dX9_gives_77 (rk_readsCells hS) (rl_readsCells hS) (by first | exact ⟨rfl, by decide⟩ | exact zix_nI (by omega) (by decide) | assumption) ?_
      refine J_topil (show _ = maskP σ st 20000 20999 i by simp [zu, gvP]) ?_
      refine J_iload (i := 4) hT dX9_gives_78 rfl ?_
      refine J_sipush (v := 20000) hT dX9_gives_80 rfl ?_
      refine J_sipush (v := 20999) hT dX9_gives_83 rfl ?_
      refine R_callS1 hY dX9_gives_86 mfX9_isWithin mtX9_isWithin kX9_255 (c_X9_isWithin hZ) rfl (by decide) rfl rfl (Nat.le_of_ble_eq_true rfl) (Nat.le_refl _) (Nat.le_refl _) ?_
      refine J_if_eq (tgt := 103) hT dX9_gives_89 (by decide) (fun q89 => ?_) (fun q89 => ?_)
      · refine J_iconst (v := 0) hT dX9_gives_103 rfl ?_
        refine J_ior hT dX9_gives_104 ?_
        refine R_iast hT dX9_gives_105 (rk_readsCells hS) (rl_readsCells hS) (by first | exact ⟨rfl, by decide⟩ | exact zix_nI (by omega) (by decide) | assumption) ?_
        refine J_aload_n (i := 0) hT dX9_gives_106 rfl rfl ?_
        refine R_getP hT fX9_38 rfl dX9_gives_107 (rk hS) (rp_readsReadings hS) ?_
        refine J_iload_n (i := 1) hT dX9_gives_110 rfl rfl ?_
        refine J_dup2 hT dX9_gives_111 rfl rfl ?_
        refine R_iald hT dX9_gives_112 (rk_readsReadings hS) (rl_readsReadings hS) (by first | exact ⟨rfl, by decide⟩ | exact zix_nI (by omega) (by decide) | assumption) ?_
        refine J_topil (show _ = maskP σ st 21000 21999 i by simp [zu, gvP]) ?_
        refine J_iload (i := 4) hT dX9_gives_113 rfl ?_
        refine J_sipush (v := 21000) hT dX9_gives_115 rfl ?_
        refine J_sipush (v := 21999) hT dX9_gives_118 rfl ?_
        refine R_callS1 hY dX9_gives_121 mfX9_isWithin mtX9_isWithin kX9_255 (c_X9_isWithin hZ) rfl (by decide) rfl rfl (Nat.le_of_ble_eq_true rfl) (Nat.le_refl _) (Nat.le_refl _) ?_
        refine J_if_eq (tgt := 138) hT dX9_gives_124 (by decide) (fun q124 => ?_) (fun q124 => ?_)
        · refine J_iconst (v := 0) hT dX9_gives_138 rfl ?_
          refine J_ior hT dX9_gives_139 ?_
          refine R_iast hT dX9_gives_140 (rk_readsReadings hS) (rl_readsReadings hS) (by first | exact ⟨rfl, by decide⟩ | exact zix_nI (by omega) (by decide) | assumption) ?_
          refine J_aload_n (i := 0) hT dX9_gives_141 rfl rfl ?_
          refine R_getP hT fX9_41 rfl dX9_gives_142 (rk hS) (rp_readsLoads hS) ?_
          refine J_iload_n (i := 1) hT dX9_gives_145 rfl rfl ?_
          refine J_dup2 hT dX9_gives_146 rfl rfl ?_
          refine R_iald hT dX9_gives_147 (rk_readsLoads hS) (rl_readsLoads hS) (by first | exact ⟨rfl, by decide⟩ | exact zix_nI (by omega) (by decide) | assumption) ?_
          refine J_topil (show _ = maskP σ st 22000 29999 i by simp [zu, gvP]) ?_
          refine J_iload (i := 4) hT dX9_gives_148 rfl ?_
          refine J_sipush (v := 22000) hT dX9_gives_150 rfl ?_
          refine J_sipush (v := 29999) hT dX9_gives_153 rfl ?_
          refine R_callS1 hY dX9_gives_156 mfX9_isWithin mtX9_isWithin kX9_255 (c_X9_isWithin hZ) rfl (by decide) rfl rfl (Nat.le_of_ble_eq_true rfl) (Nat.le_refl _) (Nat.le_refl _) ?_
          refine J_if_eq (tgt := 173) hT dX9_gives_159 (by decide) (fun q159 => ?_) (fun q159 => ?_)
          · refine J_iconst (v := 0) hT dX9_gives_173 rfl ?_
            refine J_ior hT dX9_gives_174 ?_
            refine R_iast hT dX9_gives_175 (rk_readsLoads hS) (rl_readsLoads hS) (by first | exact ⟨rfl, by decide⟩ | exact zix_nI (by omega) (by decide) | assumption) ?_
            refine S_iinc3 hT dX9_gives_176 (nI_inc _) rfl ?_
            refine J_goto (tgt := 35) hT dX9_gives_179 (by decide) ?_
            refine J_L (L' := [_, _, _, _, none]) (zsub_keep (zsub_keep (zsub_keep (zsub_keep (zsub_drop (zsub_refl _)))))) ?_
            refine J_mu (congrArg (fun s => zA4 μ s π g) (gvP_s σ c st i rfl ?_ ?_ ?_)) (ih (i + 1) (by omega))
            · simp only [zbiw_0, Decidable.not_not] at q89
              simp only [maskP]
              first | rw [if_pos q89] | rw [if_neg q89]
            · simp only [zbiw_0, Decidable.not_not] at q124
              simp only [maskP]
              first | rw [if_pos q124] | rw [if_neg q124]
            · simp only [zbiw_0, Decidable.not_not] at q159
              simp only [maskP]
              first | rw [if_pos q159] | rw [if_neg q159]
          · refine J_iconst (v := 1) hT dX9_gives_162 rfl ?_
            refine J_iload (i := 4) hT dX9_gives_163 rfl ?_
            refine J_sipush (v := 22000) hT dX9_gives_165 rfl ?_
            refine J_isub hT dX9_gives_168 ?_
            refine J_ishl hT dX9_gives_169 ?_
            refine J_goto (tgt := 174) hT dX9_gives_170 (by decide) ?_
            refine J_ior hT dX9_gives_174 ?_
            refine R_iast hT dX9_gives_175 (rk_readsLoads hS) (rl_readsLoads hS) (by first | exact ⟨rfl, by decide⟩ | exact zix_nI (by omega) (by decide) | assumption) ?_
            refine S_iinc3 hT dX9_gives_176 (nI_inc _) rfl ?_
            refine J_goto (tgt := 35) hT dX9_gives_179 (by decide) ?_
            refine J_L (L' := [_, _, _, _, none]) (zsub_keep (zsub_keep (zsub_keep (zsub_keep (zsub_drop (zsub_refl _)))))) ?_
            refine J_mu (congrArg (fun s => zA4 μ s π g) (gvP_s σ c st i rfl ?_ ?_ ?_)) (ih (i + 1) (by omega))
            · simp only [zbiw_0, Decidable.not_not] at q89
              simp only [maskP]
              first | rw [if_pos q89] | rw [if_neg q89]
            · simp only [zbiw_0, Decidable.not_not] at q124
              simp only [maskP]
              first | rw [if_pos q124] | rw [if_neg q124]
            · simp only [zbiw_0, Decidable.not_not] at q159
              simp only [maskP]
              first | rw [if_pos q159] | rw [if_neg q159]
        · refine J_iconst (v := 1) hT dX9_gives_127 rfl ?_
          refine J_iload (i := 4) hT dX9_gives_128 rfl ?_
          refine J_sipush (v := 21000) hT dX9_gives_130 rfl ?_
          refine J_isub hT dX9_gives_133 ?_
          refine J_ishl hT dX9_gives_134 ?_
          refine J_goto (tgt := 139) hT dX9_gives_135 (by decide) ?_
          refine J_ior hT dX9_gives_139 ?_
          refine R_iast hT dX9_gives_140 (rk_readsReadings hS) (rl_readsReadings hS) (by first | exact ⟨rfl, by decide⟩ | exact zix_nI (by omega) (by decide) | assumption) ?_
          refine J_aload_n (i := 0) hT dX9_gives_141 rfl rfl ?_
          refine R_getP hT fX9_41 rfl dX9_gives_142 (rk hS) (rp_readsLoads hS) ?_
          refine J_iload_n (i := 1) hT dX9_gives_145 rfl rfl ?_
          refine J_dup2 hT dX9_gives_146 rfl rfl ?_
          refine R_iald hT dX9_gives_147 (rk_readsLoads hS) (rl_readsLoads hS) (by first | exact ⟨rfl, by decide⟩ | exact zix_nI (by omega) (by decide) | assumption) ?_
          refine J_topil (show _ = maskP σ st 22000 29999 i by simp [zu, gvP]) ?_
          refine J_iload (i := 4) hT dX9_gives_148 rfl ?_
          refine J_sipush (v := 22000) hT dX9_gives_150 rfl ?_
          refine J_sipush (v := 29999) hT dX9_gives_153 rfl ?_
          refine R_callS1 hY dX9_gives_156 mfX9_isWithin mtX9_isWithin kX9_255 (c_X9_isWithin hZ) rfl (by decide) rfl rfl (Nat.le_of_ble_eq_true rfl) (Nat.le_refl _) (Nat.le_refl _) ?_
          refine J_if_eq (tgt := 173) hT dX9_gives_159 (by decide) (fun q159 => ?_) (fun q159 => ?_)
          · refine J_iconst (v := 0) hT dX9_gives_173 rfl ?_
            refine J_ior hT dX9_gives_174 ?_
            refine R_iast hT dX9_gives_175 (rk_readsLoads hS) (rl_readsLoads hS) (by first | exact ⟨rfl, by decide⟩ | exact zix_nI (by omega) (by decide) | assumption) ?_
            refine S_iinc3 hT dX9_gives_176 (nI_inc _) rfl ?_
            refine J_goto (tgt := 35) hT dX9_gives_179 (by decide) ?_
            refine J_L (L' := [_, _, _, _, none]) (zsub_keep (zsub_keep (zsub_keep (zsub_keep (zsub_drop (zsub_refl _)))))) ?_
            refine J_mu (congrArg (fun s => zA4 μ s π g) (gvP_s σ c st i rfl ?_ ?_ ?_)) (ih (i + 1) (by omega))
            · simp only [zbiw_0, Decidable.not_not] at q89
              simp only [maskP]
              first | rw [if_pos q89] | rw [if_neg q89]
            · simp only [zbiw_0, Decidable.not_not] at q124
              simp only [maskP]
              first | rw [if_pos q124] | rw [if_neg q124]
            · simp only [zbiw_0, Decidable.not_not] at q159
              simp only [maskP]
              first | rw [if_pos q159] | rw [if_neg q159]
          · refine J_iconst (v := 1) hT dX9_gives_162 rfl ?_
            refine J_iload (i := 4) hT dX9_gives_163 rfl ?_
            refine J_sipush (v := 22000) hT dX9_gives_165 rfl ?_
            refine J_isub hT dX9_gives_168 ?_
            refine J_ishl hT dX9_gives_169 ?_
            refine J_goto (tgt := 174) hT dX9_gives_170 (by decide) ?_
            refine J_ior hT dX9_gives_174 ?_
            refine R_iast hT dX9_gives_175 (rk_readsLoads hS) (rl_readsLoads hS) (by first | exact ⟨rfl, by decide⟩ | exact zix_nI (by omega) (by decide) | assumption) ?_
            refine S_iinc3 hT dX9_gives_176 (nI_inc _) rfl ?_
            refine J_goto (tgt := 35) hT dX9_gives_179 (by decide) ?_
            refine J_L (L' := [_, _, _, _, none]) (zsub_keep (zsub_keep (zsub_keep (zsub_keep (zsub_drop (zsub_refl _)))))) ?_
            refine J_mu (congrArg (fun s => zA4 μ s π g) (gvP_s σ c st i rfl ?_ ?_ ?_)) (ih (i + 1) (by omega))
            · simp only [zbiw_0, Decidable.not_not] at q89
              simp only [maskP]
              first | rw [if_pos q89] | rw [if_neg q89]
            · simp only [zbiw_0, Decidable.not_not] at q124
              simp only [maskP]
              first | rw [if_pos q124] | rw [if_neg q124]
            · simp only [zbiw_0, Decidable.not_not] at q159
              simp only [maskP]
              first | rw [if_pos q159] | rw [if_neg q159]
      · refine J_iconst (v := 1) hT dX9_gives_92 rfl ?_
        refine J_iload (i := 4) hT dX9_gives_93 rfl ?_
        refine J_sipush (v := 20000) hT dX9_gives_95 rfl ?_
        refine J_isub hT dX9_gives_98 ?_
        refine J_ishl hT dX9_gives_99 ?_
        refine J_goto (tgt := 104) hT dX9_gives_100 (by decide) ?_
        refine J_ior hT dX9_gives_104 ?_
        refine R_iast hT dX9_gives_105 (rk_readsCells hS) (rl_readsCells hS) (by first | exact ⟨rfl, by decide⟩ | exact zix_nI (by omega) (by decide) | assumption) ?_
        refine J_aload_n (i := 0) hT dX9_gives_106 rfl rfl ?_
        refine R_getP hT fX9_38 rfl dX9_gives_107 (rk hS) (rp_readsReadings hS) ?_
        refine J_iload_n (i := 1) hT dX9_gives_110 rfl rfl ?_
        refine J_dup2 hT dX9_gives_111 rfl rfl ?_
        refine R_iald hT dX9_gives_112 (rk_readsReadings hS) (rl_readsReadings hS) (by first | exact ⟨rfl, by decide⟩ | exact zix_nI (by omega) (by decide) | assumption) ?_
        refine J_topil (show _ = maskP σ st 21000 21999 i by simp [zu, gvP]) ?_
        refine J_iload (i := 4) hT dX9_gives_113 rfl ?_
        refine J_sipush (v := 21000) hT dX9_gives_115 rfl ?_
        refine J_sipush (v := 21999) hT dX9_gives_118 rfl ?_
        refine R_callS1 hY dX9_gives_121 mfX9_isWithin mtX9_isWithin kX9_255 (c_X9_isWithin hZ) rfl (by decide) rfl rfl (Nat.le_of_ble_eq_true rfl) (Nat.le_refl _) (Nat.le_refl _) ?_
        refine J_if_eq (tgt := 138) hT dX9_gives_124 (by decide) (fun q124 => ?_) (fun q124 => ?_)
        · refine J_iconst (v := 0) hT dX9_gives_138 rfl ?_
          refine J_ior hT dX9_gives_139 ?_
          refine R_iast hT dX9_gives_140 (rk_readsReadings hS) (rl_readsReadings hS) (by first | exact ⟨rfl, by decide⟩ | exact zix_nI (by omega) (by decide) | assumption) ?_
          refine J_aload_n (i := 0) hT dX9_gives_141 rfl rfl ?_
          refine R_getP hT fX9_41 rfl dX9_gives_142 (rk hS) (rp_readsLoads hS) ?_
          refine J_iload_n (i := 1) hT dX9_gives_145 rfl rfl ?_
          refine J_dup2 hT dX9_gives_146 rfl rfl ?_
          refine R_iald hT dX9_gives_147 (rk_readsLoads hS) (rl_readsLoads hS) (by first | exact ⟨rfl, by decide⟩ | exact zix_nI (by omega) (by decide) | assumption) ?_
          refine J_topil (show _ = maskP σ st 22000 29999 i by simp [zu, gvP]) ?_
          refine J_iload (i := 4) hT dX9_gives_148 rfl ?_
          refine J_sipush (v := 22000) hT dX9_gives_150 rfl ?_
          refine J_sipush (v := 29999) hT dX9_gives_153 rfl ?_
          refine R_callS1 hY dX9_gives_156 mfX9_isWithin mtX9_isWithin kX9_255 (c_X9_isWithin hZ) rfl (by decide) rfl rfl (Nat.le_of_ble_eq_true rfl) (Nat.le_refl _) (Nat.le_refl _) ?_
          refine J_if_eq (tgt := 173) hT dX9_gives_159 (by decide) (fun q159 => ?_) (fun q159 => ?_)
          · refine J_iconst (v := 0) hT dX9_gives_173 rfl ?_
            refine J_ior hT dX9_gives_174 ?_
            refine R_iast hT dX9_gives_175 (rk_readsLoads hS) (rl_readsLoads hS) (by first | exact ⟨rfl, by decide⟩ | exact zix_nI (by omega) (by decide) | assumption) ?_
            refine S_iinc3 hT dX9_gives_176 (nI_inc _) rfl ?_
            refine J_goto (tgt := 35) hT dX9_gives_179 (by decide) ?_
            refine J_L (L' := [_, _, _, _, none]) (zsub_keep (zsub_keep (zsub_keep (zsub_keep (zsub_drop (zsub_refl _)))))) ?_
            refine J_mu (congrArg (fun s => zA4 μ s π g) (gvP_s σ c st i rfl ?_ ?_ ?_)) (ih (i + 1) (by omega))
            · simp only [zbiw_0, Decidable.not_not] at q89
              simp only [maskP]
              first | rw [if_pos q89] | rw [if_neg q89]
            · simp only [zbiw_0, Decidable.not_not] at q124
              simp only [maskP]
              first | rw [if_pos q124] | rw [if_neg q124]
            · simp only [zbiw_0, Decidable.not_not] at q159
              simp only [maskP]
              first | rw [if_pos q159] | rw [if_neg q159]
          · refine J_iconst (v := 1) hT dX9_gives_162 rfl ?_
            refine J_iload (i := 4) hT dX9_gives_163 rfl ?_
            refine J_sipush (v := 22000) hT dX9_gives_165 rfl ?_
            refine J_isub hT dX9_gives_168 ?_
            refine J_ishl hT dX9_gives_169 ?_
            refine J_goto (tgt := 174) hT dX9_gives_170 (by decide) ?_
            refine J_ior hT dX9_gives_174 ?_
            refine R_iast hT dX9_gives_175 (rk_readsLoads hS) (rl_readsLoads hS) (by first | exact ⟨rfl, by decide⟩ | exact zix_nI (by omega) (by decide) | assumption) ?_
            refine S_iinc3 hT dX9_gives_176 (nI_inc _) rfl ?_
            refine J_goto (tgt := 35) hT dX9_gives_179 (by decide) ?_
            refine J_L (L' := [_, _, _, _, none]) (zsub_keep (zsub_keep (zsub_keep (zsub_keep (zsub_drop (zsub_refl _)))))) ?_
            refine J_mu (congrArg (fun s => zA4 μ s π g) (gvP_s σ c st i rfl ?_ ?_ ?_)) (ih (i + 1) (by omega))
            · simp only [zbiw_0, Decidable.not_not] at q89
              simp only [maskP]
              first | rw [if_pos q89] | rw [if_neg q89]
            · simp only [zbiw_0, Decidable.not_not] at q124
              simp only [maskP]
              first | rw [if_pos q124] | rw [if_neg q124]
            · simp only [zbiw_0, Decidable.not_not] at q159
              simp only [maskP]
              first | rw [if_pos q159] | rw [if_neg q159]
        · refine J_iconst (v := 1) hT dX9_gives_127 rfl ?_
          refine J_iload (i := 4) hT dX9_gives_128 rfl ?_
          refine J_sipush (v := 21000) hT dX9_gives_130 rfl ?_
          refine J_isub hT dX9_gives_133 ?_
          refine J_ishl hT dX9_gives_134 ?_
          refine J_goto (tgt := 139) hT dX9_gives_135 (by decide) ?_
          refine J_ior hT dX9_gives_139 ?_
          refine R_iast hT dX9_gives_140 (rk_readsReadings hS) (rl_readsReadings hS) (by first | exact ⟨rfl, by decide⟩ | exact zix_nI (by omega) (by decide) | assumption) ?_
          refine J_aload_n (i := 0) hT dX9_gives_141 rfl rfl ?_
          refine R_getP hT fX9_41 rfl dX9_gives_142 (rk hS) (rp_readsLoads hS) ?_
          refine J_iload_n (i := 1) hT dX9_gives_145 rfl rfl ?_
          refine J_dup2 hT dX9_gives_146 rfl rfl ?_
          refine R_iald hT dX9_gives_147 (rk_readsLoads hS) (rl_readsLoads hS) (by first | exact ⟨rfl, by decide⟩ | exact zix_nI (by omega) (by decide) | assumption) ?_
          refine J_topil (show _ = maskP σ st 22000 29999 i by simp [zu, gvP]) ?_
          refine J_iload (i := 4) hT dX9_gives_148 rfl ?_
          refine J_sipush (v := 22000) hT dX9_gives_150 rfl ?_
          refine J_sipush (v := 29999) hT dX9_gives_153 rfl ?_
          refine R_callS1 hY dX9_gives_156 mfX9_isWithin mtX9_isWithin kX9_255 (c_X9_isWithin hZ) rfl (by decide) rfl rfl (Nat.le_of_ble_eq_true rfl) (Nat.le_refl _) (Nat.le_refl _) ?_
          refine J_if_eq (tgt := 173) hT dX9_gives_159 (by decide) (fun q159 => ?_) (fun q159 => ?_)
          · refine J_iconst (v := 0) hT dX9_gives_173 rfl ?_
            refine J_ior hT dX9_gives_174 ?_
            refine R_iast hT dX9_gives_175 (rk_readsLoads hS) (rl_readsLoads hS) (by first | exact ⟨rfl, by decide⟩ | exact zix_nI (by omega) (by decide) | assumption) ?_
            refine S_iinc3 hT dX9_gives_176 (nI_inc _) rfl ?_
            refine J_goto (tgt := 35) hT dX9_gives_179 (by decide) ?_
            refine J_L (L' := [_, _, _, _, none]) (zsub_keep (zsub_keep (zsub_keep (zsub_keep (zsub_drop (zsub_refl _)))))) ?_
            refine J_mu (congrArg (fun s => zA4 μ s π g) (gvP_s σ c st i rfl ?_ ?_ ?_)) (ih (i + 1) (by omega))
            · simp only [zbiw_0, Decidable.not_not] at q89
              simp only [maskP]
              first | rw [if_pos q89] | rw [if_neg q89]
            · simp only [zbiw_0, Decidable.not_not] at q124
              simp only [maskP]
              first | rw [if_pos q124] | rw [if_neg q124]
            · simp only [zbiw_0, Decidable.not_not] at q159
              simp only [maskP]
              first | rw [if_pos q159] | rw [if_neg q159]
          · refine J_iconst (v := 1) hT dX9_gives_162 rfl ?_
            refine J_iload (i := 4) hT dX9_gives_163 rfl ?_
            refine J_sipush (v := 22000) hT dX9_gives_165 rfl ?_
            refine J_isub hT dX9_gives_168 ?_
            refine J_ishl hT dX9_gives_169 ?_
            refine J_goto (tgt := 174) hT dX9_gives_170 (by decide) ?_
            refine J_ior hT dX9_gives_174 ?_
            refine R_iast hT dX9_gives_175 (rk_readsLoads hS) (rl_readsLoads hS) (by first | exact ⟨rfl, by decide⟩ | exact zix_nI (by omega) (by decide) | assumption) ?_
            refine S_iinc3 hT dX9_gives_176 (nI_inc _) rfl ?_
            refine J_goto (tgt := 35) hT dX9_gives_179 (by decide) ?_
            refine J_L (L' := [_, _, _, _, none]) (zsub_keep (zsub_keep (zsub_keep (zsub_keep (zsub_drop (zsub_refl _)))))) ?_
            refine J_mu (congrArg (fun s => zA4 μ s π g) (gvP_s σ c st i rfl ?_ ?_ ?_)) (ih (i + 1) (by omega))
            · simp only [zbiw_0, Decidable.not_not] at q89
              simp only [maskP]
              first | rw [if_pos q89] | rw [if_neg q89]
            · simp only [zbiw_0, Decidable.not_not] at q124
              simp only [maskP]
              first | rw [if_pos q124] | rw [if_neg q124]
            · simp only [zbiw_0, Decidable.not_not] at q159
              simp only [maskP]
              first | rw [if_pos q159] | rw [if_neg q159]
  refine J_aload_n (i := 0) hT dX9_gives_0 rfl rfl ?_
  refine R_getP hT fX9_35 rfl dX9_gives_1 (rk hS) (rp_readsCells hS) ?_
  refine J_iload_n (i := 1) hT dX9_gives_4 rfl rfl ?_
  refine J_iconst (v := 0) hT dX9_gives_5 rfl ?_
  refine R_iast hT dX9_gives_6 (rk_readsCells hS) (rl_readsCells hS) (by first | exact ⟨rfl, by decide⟩ | exact zix_nI (by omega) (by decide) | assumption) ?_
  refine J_aload_n (i := 0) hT dX9_gives_7 rfl rfl ?_
  refine R_getP hT fX9_38 rfl dX9_gives_8 (rk hS) (rp_readsReadings hS) ?_
  refine J_iload_n (i := 1) hT dX9_gives_11 rfl rfl ?_
  refine J_iconst (v := 0) hT dX9_gives_12 rfl ?_
  refine R_iast hT dX9_gives_13 (rk_readsReadings hS) (rl_readsReadings hS) (by first | exact ⟨rfl, by decide⟩ | exact zix_nI (by omega) (by decide) | assumption) ?_
  refine J_aload_n (i := 0) hT dX9_gives_14 rfl rfl ?_
  refine R_getP hT fX9_41 rfl dX9_gives_15 (rk hS) (rp_readsLoads hS) ?_
  refine J_iload_n (i := 1) hT dX9_gives_18 rfl rfl ?_
  refine J_iconst (v := 0) hT dX9_gives_19 rfl ?_
  refine R_iast hT dX9_gives_20 (rk_readsLoads hS) (rl_readsLoads hS) (by first | exact ⟨rfl, by decide⟩ | exact zix_nI (by omega) (by decide) | assumption) ?_
  refine J_aload_n (i := 0) hT dX9_gives_21 rfl rfl ?_
  refine R_getP hT fX9_32 rfl dX9_gives_22 (rk hS) (rp_codeLength hS) ?_
  refine J_iload_n (i := 1) hT dX9_gives_25 rfl rfl ?_
  refine J_aload_n (i := 0) hT dX9_gives_26 rfl rfl ?_
  refine R_getP hT fX9_119 rfl dX9_gives_27 (rk hS) (rp_stepLength hS) ?_
  refine J_iload_n (i := 2) hT dX9_gives_30 rfl rfl ?_
  refine R_iald hT dX9_gives_31 (rk_stepLength hS) (rl_stepLength hS) (by first | exact ⟨rfl, by decide⟩ | exact zix_nI (by omega) (by decide) | assumption) ?_
  refine J_topil ((show _ = σ 104 st by simp [zu])) ?_
  refine R_iast hT dX9_gives_32 (rk_codeLength hS) (rl_codeLength hS) (by first | exact ⟨rfl, by decide⟩ | exact zix_nI (by omega) (by decide) | assumption) ?_
  refine J_iconst (v := 0) hT dX9_gives_33 rfl ?_
  refine S_istore3 hT dX9_gives_34 rfl rfl ?_
  refine J_mu (congrArg (fun s => zA4 μ s π g) (gvP_0 σ c st)) (loop n0 0 (Nat.zero_add _))

set_option maxRecDepth 100000 in
set_option maxHeartbeats 4000000 in
theorem c_X9_setsCell {l : Launch} {Z : zZ} (hZ : zSt l Z) {μ : zMem} {σ : Nat → Nat → Int32} {π : Nat → Nat → Option Nat} {g : Nat → Nat → Int64} (hS : zRef μ π) {c st n0 : Nat} (hc : c < 12) (hst : st < 40) (hf : σ 99 st = nI c) (hn : σ 98 st = 0 → n0 ≤ 30 ∧ σ 104 st = nI n0) : zCt l Z mX9_setsCell 3 0 0 [.ref 67, .int (nI st)] (zA4 μ σ π g) (fun r μ' => r = none ∧ μ' = zA4 μ (setCF σ c st n0) π g) := by
  refine zCt_of hZ mpX9_setsCell (Nat.le_of_ble_eq_true rfl) (L := [some (.ref 67), some (.int (nI st)), none]) rfl (fun τ hY => ?_)
  have hT := hY.1
  refine J_aload_n (i := 0) hT dX9_setsCell_0 rfl rfl ?_
  refine R_getP hT fX9_104 rfl dX9_setsCell_1 (rk hS) (rp_first hS) ?_
  refine J_iload_n (i := 1) hT dX9_setsCell_4 rfl rfl ?_
  refine R_iald hT dX9_setsCell_5 (rk_first hS) (rl_first hS) (by first | exact ⟨rfl, by decide⟩ | exact zix_nI (by omega) (by decide) | assumption) ?_
  refine J_topil (hf) ?_
  refine S_istore2 hT dX9_setsCell_6 rfl rfl ?_
  refine J_aload_n (i := 0) hT dX9_setsCell_7 rfl rfl ?_
  refine R_getP hT fX9_101 rfl dX9_setsCell_8 (rk hS) (rp_kind hS) ?_
  refine J_iload_n (i := 1) hT dX9_setsCell_11 rfl rfl ?_
  refine R_iald hT dX9_setsCell_12 (rk_kind hS) (rl_kind hS) (by first | exact ⟨rfl, by decide⟩ | exact zix_nI (by omega) (by decide) | assumption) ?_
  refine J_if_ne (tgt := 25) hT dX9_setsCell_13 (by decide) (fun q13 => ?_) (fun q13 => ?_)
  · refine J_aload_n (i := 0) hT dX9_setsCell_25 rfl rfl ?_
    refine R_getP hT fX9_101 rfl dX9_setsCell_26 (rk hS) (rp_kind hS) ?_
    refine J_iload_n (i := 1) hT dX9_setsCell_29 rfl rfl ?_
    refine R_iald hT dX9_setsCell_30 (rk_kind hS) (rl_kind hS) (by first | exact ⟨rfl, by decide⟩ | exact zix_nI (by omega) (by decide) | assumption) ?_
    refine J_iconst (v := 1) hT dX9_setsCell_31 rfl ?_
    refine J_icmp_ne (tgt := 75) hT dX9_setsCell_32 (by decide) (fun q32 => ?_) (fun q32 => ?_)
    · refine J_aload_n (i := 0) hT dX9_setsCell_75 rfl rfl ?_
      refine R_getP hT fX9_47 rfl dX9_setsCell_76 (rk hS) (rp_isHeld hS) ?_
      refine J_iload_n (i := 2) hT dX9_setsCell_79 rfl rfl ?_
      refine J_iconst (v := 0) hT dX9_setsCell_80 rfl ?_
      refine R_zast hT dX9_setsCell_81 (rk_isHeld hS) (rl_isHeld hS) (by first | exact ⟨rfl, by decide⟩ | exact zix_nI (by omega) (by decide) | assumption) (by decide) ?_
      refine J_aload_n (i := 0) hT dX9_setsCell_82 rfl rfl ?_
      refine R_getP hT fX9_74 rfl dX9_setsCell_83 (rk hS) (rp_isDirty hS) ?_
      refine J_iload_n (i := 2) hT dX9_setsCell_86 rfl rfl ?_
      refine J_iconst (v := 1) hT dX9_setsCell_87 rfl ?_
      refine R_zast hT dX9_setsCell_88 (rk_isDirty hS) (rl_isDirty hS) (by first | exact ⟨rfl, by decide⟩ | exact zix_nI (by omega) (by decide) | assumption) (by decide) ?_
      exact J_vret hT dX9_setsCell_89 rfl (⟨rfl, by simp_all [setCF]⟩) (Nat.le_refl _) (Nat.le_refl _)
    · refine J_aload_n (i := 0) hT dX9_setsCell_35 rfl rfl ?_
      refine R_getP hT fX9_47 rfl dX9_setsCell_36 (rk hS) (rp_isHeld hS) ?_
      refine J_iload_n (i := 2) hT dX9_setsCell_39 rfl rfl ?_
      refine J_iconst (v := 1) hT dX9_setsCell_40 rfl ?_
      refine R_zast hT dX9_setsCell_41 (rk_isHeld hS) (rl_isHeld hS) (by first | exact ⟨rfl, by decide⟩ | exact zix_nI (by omega) (by decide) | assumption) (by decide) ?_
      refine J_aload_n (i := 0) hT dX9_setsCell_42 rfl rfl ?_
      refine R_getP hT fX9_50 rfl dX9_setsCell_43 (rk hS) (rp_heldAt hS) ?_
      refine J_iload_n (i := 2) hT dX9_setsCell_46 rfl rfl ?_
      refine J_aload_n (i := 0) hT dX9_setsCell_47 rfl rfl ?_
      refine R_getP hT fX9_107 rfl dX9_setsCell_48 (rk hS) (rp_second hS) ?_
      refine J_iload_n (i := 1) hT dX9_setsCell_51 rfl rfl ?_
      refine R_iald hT dX9_setsCell_52 (rk_second hS) (rl_second hS) (by first | exact ⟨rfl, by decide⟩ | exact zix_nI (by omega) (by decide) | assumption) ?_
      refine J_topil ((show _ = σ 100 st by simp [zu])) ?_
      refine R_iast hT dX9_setsCell_53 (rk_heldAt hS) (rl_heldAt hS) (by first | exact ⟨rfl, by decide⟩ | exact zix_nI (by omega) (by decide) | assumption) ?_
      refine J_aload_n (i := 0) hT dX9_setsCell_54 rfl rfl ?_
      refine R_getP hT fX9_74 rfl dX9_setsCell_55 (rk hS) (rp_isDirty hS) ?_
      refine J_iload_n (i := 2) hT dX9_setsCell_58 rfl rfl ?_
      refine J_iconst (v := 0) hT dX9_setsCell_59 rfl ?_
      refine R_zast hT dX9_setsCell_60 (rk_isDirty hS) (rl_isDirty hS) (by first | exact ⟨rfl, by decide⟩ | exact zix_nI (by omega) (by decide) | assumption) (by decide) ?_
      refine J_aload_n (i := 0) hT dX9_setsCell_61 rfl rfl ?_
      refine J_iload_n (i := 2) hT dX9_setsCell_62 rfl rfl ?_
      refine J_aload_n (i := 0) hT dX9_setsCell_63 rfl rfl ?_
      refine R_getP hT fX9_107 rfl dX9_setsCell_64 (rk hS) (rp_second hS) ?_
      refine J_iload_n (i := 1) hT dX9_setsCell_67 rfl rfl ?_
      refine R_iald hT dX9_setsCell_68 (rk_second hS) (rl_second hS) (by first | exact ⟨rfl, by decide⟩ | exact zix_nI (by omega) (by decide) | assumption) ?_
      refine J_topil ((show _ = σ 100 st by simp [zu])) ?_
      refine R_callV0 (ci := 9) hY dX9_setsCell_69 mfX9_becomes miX9_becomes msX9_becomes kX9_214 ⟨by decide, rfl⟩ (rk hS) (c_X9_becomes hZ hS hc) rfl (by decide) rfl rfl (Nat.le_of_ble_eq_true rfl) (Nat.le_refl _) (Nat.le_refl _) ?_
      refine J_goto (tgt := 89) hT dX9_setsCell_72 (by decide) ?_
      exact J_vret hT dX9_setsCell_89 rfl (⟨rfl, by simp_all [setCF]⟩) (Nat.le_refl _) (Nat.le_refl _)
  · refine J_aload_n (i := 0) hT dX9_setsCell_16 rfl rfl ?_
    refine J_iload_n (i := 2) hT dX9_setsCell_17 rfl rfl ?_
    refine J_iload_n (i := 1) hT dX9_setsCell_18 rfl rfl ?_
    refine R_callV0 (ci := 9) hY dX9_setsCell_19 mfX9_gives miX9_gives msX9_gives kX9_262 ⟨by decide, rfl⟩ (rk hS) (c_X9_gives hZ hS hc hst (hn q13).1 (hn q13).2) rfl (by decide) rfl rfl (Nat.le_of_ble_eq_true rfl) (Nat.le_refl _) (Nat.le_refl _) ?_
    refine J_goto (tgt := 89) hT dX9_setsCell_22 (by decide) ?_
    exact J_vret hT dX9_setsCell_89 rfl (⟨rfl, by simp_all [setCF]⟩) (Nat.le_refl _) (Nat.le_refl _)

set_option maxRecDepth 100000 in
set_option maxHeartbeats 4000000 in
theorem c_X9_setsService {l : Launch} {Z : zZ} (hZ : zSt l Z) {μ : zMem} {σ : Nat → Nat → Int32} {π : Nat → Nat → Option Nat} {g : Nat → Nat → Int64} (hS : zRef μ π) {s st : Nat} (hs : s < 5) (hst : st < 40) (hf : σ 99 st = nI s) : zCt l Z mX9_setsService 0 0 0 [.ref 67, .int (nI st)] (zA4 μ σ π g) (fun r μ' => r = none ∧ μ' = zA4 μ (setSF σ s st) π g) := by
  refine zCt_of hZ mpX9_setsService (Nat.le_of_ble_eq_true rfl) (L := [some (.ref 67), some (.int (nI st)), none, none]) rfl (fun τ hY => ?_)
  have hT := hY.1
  have h6 : zJ τ (zFn τ (fun r μ' => r = none ∧ μ' = zA4 μ (setSF σ s st) π g) 0 0) 192 [some (.ref 67), some (.int (nI st)), some (.int (nI s)), none] [] (zA4 μ ((zu (zu (zu (zu (zu (zu σ 82 s (if σ 98 st = 4 then σ 100 st else σ 82 s)) 83 s (if σ 98 st = 5 then σ 100 st else σ 83 s)) 85 s (if σ 98 st = 6 then σ 100 st else σ 85 s)) 86 s (if σ 98 st = 6 then σ 101 st else σ 86 s)) 87 s (if σ 98 st = 8 then σ 100 st else σ 87 s)) 92 s (if σ 98 st = 9 then 0 else σ 92 s))) π g) 0 0 := by
    refine J_aload_n (i := 0) hT dX9_setsService_192 rfl rfl ?_
    refine R_getP hT fX9_101 rfl dX9_setsService_193 (rk hS) (rp_kind hS) ?_
    refine J_iload_n (i := 1) hT dX9_setsService_196 rfl rfl ?_
    refine R_iald hT dX9_setsService_197 (rk_kind hS) (rl_kind hS) (by first | exact ⟨rfl, by decide⟩ | exact zix_nI (by omega) (by decide) | assumption) ?_
    refine J_bipush (v := 7) hT dX9_setsService_198 rfl ?_
    refine J_icmp_ne (tgt := 249) hT dX9_setsService_200 (by decide) (fun q200 => ?_) (fun q200 => ?_)
    · refine J_vret hT dX9_setsService_249 rfl ⟨rfl, ?_⟩ (Nat.le_refl _) (Nat.le_refl _)
      have q7 : ¬ σ 98 st = 7 := by simpa [zu] using q200
      unfold setSF
      rw [if_neg q7]
    · refine J_iconst (v := 1) hT dX9_setsService_203 rfl ?_
      refine J_aload_n (i := 0) hT dX9_setsService_204 rfl rfl ?_
      refine R_getP hT fX9_107 rfl dX9_setsService_205 (rk hS) (rp_second hS) ?_
      refine J_iload_n (i := 1) hT dX9_setsService_208 rfl rfl ?_
      refine R_iald hT dX9_setsService_209 (rk_second hS) (rl_second hS) (by first | exact ⟨rfl, by decide⟩ | exact zix_nI (by omega) (by decide) | assumption) ?_
      refine J_ishl hT dX9_setsService_210 ?_
      refine S_istore3 hT dX9_setsService_211 rfl rfl ?_
      refine J_aload_n (i := 0) hT dX9_setsService_212 rfl rfl ?_
      refine R_getP hT fX9_59 rfl dX9_setsService_213 (rk hS) (rp_needs hS) ?_
      refine J_iload_n (i := 2) hT dX9_setsService_216 rfl rfl ?_
      refine J_aload_n (i := 0) hT dX9_setsService_217 rfl rfl ?_
      refine R_getP hT fX9_110 rfl dX9_setsService_218 (rk hS) (rp_third hS) ?_
      refine J_iload_n (i := 1) hT dX9_setsService_221 rfl rfl ?_
      refine R_iald hT dX9_setsService_222 (rk_third hS) (rl_third hS) (by first | exact ⟨rfl, by decide⟩ | exact zix_nI (by omega) (by decide) | assumption) ?_
      refine J_iconst (v := 1) hT dX9_setsService_223 rfl ?_
      refine J_icmp_ne (tgt := 238) hT dX9_setsService_224 (by decide) (fun q224 => ?_) (fun q224 => ?_)
      · refine J_aload_n (i := 0) hT dX9_setsService_238 rfl rfl ?_
        refine R_getP hT fX9_59 rfl dX9_setsService_239 (rk hS) (rp_needs hS) ?_
        refine J_iload_n (i := 2) hT dX9_setsService_242 rfl rfl ?_
        refine R_iald hT dX9_setsService_243 (rk_needs hS) (rl_needs hS) (by first | exact ⟨rfl, by decide⟩ | exact zix_nI (by omega) (by decide) | assumption) ?_
        refine J_iload_n (i := 3) hT dX9_setsService_244 rfl rfl ?_
        refine J_iconst (v := -1) hT dX9_setsService_245 rfl ?_
        refine J_ixor hT dX9_setsService_246 ?_
        refine J_iand hT dX9_setsService_247 ?_
        refine J_topil (y := if σ 101 st = 1 then σ 84 s ||| ((1 : Int32) <<< (σ 100 st &&& 31)) else σ 84 s &&& (((1 : Int32) <<< (σ 100 st &&& 31)) ^^^ (-1))) ?_ ?_
        · have q7 : σ 98 st = 7 := by simpa [zu] using q200
          simp [zu] at *
          simp [*]
        refine R_iast hT dX9_setsService_248 (rk_needs hS) (rl_needs hS) (zix_nI hs (by decide)) ?_
        refine J_vret hT dX9_setsService_249 rfl ⟨rfl, ?_⟩ (Nat.le_refl _) (Nat.le_refl _)
        have q7 : σ 98 st = 7 := by simpa [zu] using q200
        unfold setSF
        rw [if_pos q7]
      · refine J_aload_n (i := 0) hT dX9_setsService_227 rfl rfl ?_
        refine R_getP hT fX9_59 rfl dX9_setsService_228 (rk hS) (rp_needs hS) ?_
        refine J_iload_n (i := 2) hT dX9_setsService_231 rfl rfl ?_
        refine R_iald hT dX9_setsService_232 (rk_needs hS) (rl_needs hS) (by first | exact ⟨rfl, by decide⟩ | exact zix_nI (by omega) (by decide) | assumption) ?_
        refine J_iload_n (i := 3) hT dX9_setsService_233 rfl rfl ?_
        refine J_ior hT dX9_setsService_234 ?_
        refine J_goto (tgt := 248) hT dX9_setsService_235 (by decide) ?_
        refine J_topil (y := if σ 101 st = 1 then σ 84 s ||| ((1 : Int32) <<< (σ 100 st &&& 31)) else σ 84 s &&& (((1 : Int32) <<< (σ 100 st &&& 31)) ^^^ (-1))) ?_ ?_
        · have q7 : σ 98 st = 7 := by simpa [zu] using q200
          simp [zu] at *
          simp [*]
        refine R_iast hT dX9_setsService_248 (rk_needs hS) (rl_needs hS) (zix_nI hs (by decide)) ?_
        refine J_vret hT dX9_setsService_249 rfl ⟨rfl, ?_⟩ (Nat.le_refl _) (Nat.le_refl _)
        have q7 : σ 98 st = 7 := by simpa [zu] using q200
        unfold setSF
        rw [if_pos q7]
  have h5 : zJ τ (zFn τ (fun r μ' => r = none ∧ μ' = zA4 μ (setSF σ s st) π g) 0 0) 165 [some (.ref 67), some (.int (nI st)), some (.int (nI s)), none] [] (zA4 μ ((zu (zu (zu (zu (zu σ 82 s (if σ 98 st = 4 then σ 100 st else σ 82 s)) 83 s (if σ 98 st = 5 then σ 100 st else σ 83 s)) 85 s (if σ 98 st = 6 then σ 100 st else σ 85 s)) 86 s (if σ 98 st = 6 then σ 101 st else σ 86 s)) 87 s (if σ 98 st = 8 then σ 100 st else σ 87 s))) π g) 0 0 := by
    refine J_aload_n (i := 0) hT dX9_setsService_165 rfl rfl ?_
    refine R_getP hT fX9_83 rfl dX9_setsService_166 (rk hS) (rp_state hS) ?_
    refine J_iload_n (i := 2) hT dX9_setsService_169 rfl rfl ?_
    refine J_aload_n (i := 0) hT dX9_setsService_170 rfl rfl ?_
    refine R_getP hT fX9_101 rfl dX9_setsService_171 (rk hS) (rp_kind hS) ?_
    refine J_iload_n (i := 1) hT dX9_setsService_174 rfl rfl ?_
    refine R_iald hT dX9_setsService_175 (rk_kind hS) (rl_kind hS) (by first | exact ⟨rfl, by decide⟩ | exact zix_nI (by omega) (by decide) | assumption) ?_
    refine J_bipush (v := 9) hT dX9_setsService_176 rfl ?_
    refine J_icmp_ne (tgt := 185) hT dX9_setsService_178 (by decide) (fun q178 => ?_) (fun q178 => ?_)
    · refine J_aload_n (i := 0) hT dX9_setsService_185 rfl rfl ?_
      refine R_getP hT fX9_83 rfl dX9_setsService_186 (rk hS) (rp_state hS) ?_
      refine J_iload_n (i := 2) hT dX9_setsService_189 rfl rfl ?_
      refine R_iald hT dX9_setsService_190 (rk_state hS) (rl_state hS) (by first | exact ⟨rfl, by decide⟩ | exact zix_nI (by omega) (by decide) | assumption) ?_
      refine J_topil (y := (if σ 98 st = 9 then 0 else σ 92 s)) ?_ ?_
      · simp [zu] at *
        simp [*]
      refine R_iast hT dX9_setsService_191 (rk_state hS) (rl_state hS) (zix_nI hs (by decide)) ?_
      exact h6
    · refine J_iconst (v := 0) hT dX9_setsService_181 rfl ?_
      refine J_goto (tgt := 191) hT dX9_setsService_182 (by decide) ?_
      refine J_topil (y := (if σ 98 st = 9 then 0 else σ 92 s)) ?_ ?_
      · simp [zu] at *
        simp [*]
      refine R_iast hT dX9_setsService_191 (rk_state hS) (rl_state hS) (zix_nI hs (by decide)) ?_
      exact h6
  have h4 : zJ τ (zFn τ (fun r μ' => r = none ∧ μ' = zA4 μ (setSF σ s st) π g) 0 0) 133 [some (.ref 67), some (.int (nI st)), some (.int (nI s)), none] [] (zA4 μ ((zu (zu (zu (zu σ 82 s (if σ 98 st = 4 then σ 100 st else σ 82 s)) 83 s (if σ 98 st = 5 then σ 100 st else σ 83 s)) 85 s (if σ 98 st = 6 then σ 100 st else σ 85 s)) 86 s (if σ 98 st = 6 then σ 101 st else σ 86 s))) π g) 0 0 := by
    refine J_aload_n (i := 0) hT dX9_setsService_133 rfl rfl ?_
    refine R_getP hT fX9_68 rfl dX9_setsService_134 (rk hS) (rp_lie hS) ?_
    refine J_iload_n (i := 2) hT dX9_setsService_137 rfl rfl ?_
    refine J_aload_n (i := 0) hT dX9_setsService_138 rfl rfl ?_
    refine R_getP hT fX9_101 rfl dX9_setsService_139 (rk hS) (rp_kind hS) ?_
    refine J_iload_n (i := 1) hT dX9_setsService_142 rfl rfl ?_
    refine R_iald hT dX9_setsService_143 (rk_kind hS) (rl_kind hS) (by first | exact ⟨rfl, by decide⟩ | exact zix_nI (by omega) (by decide) | assumption) ?_
    refine J_bipush (v := 8) hT dX9_setsService_144 rfl ?_
    refine J_icmp_ne (tgt := 158) hT dX9_setsService_146 (by decide) (fun q146 => ?_) (fun q146 => ?_)
    · refine J_aload_n (i := 0) hT dX9_setsService_158 rfl rfl ?_
      refine R_getP hT fX9_68 rfl dX9_setsService_159 (rk hS) (rp_lie hS) ?_
      refine J_iload_n (i := 2) hT dX9_setsService_162 rfl rfl ?_
      refine R_iald hT dX9_setsService_163 (rk_lie hS) (rl_lie hS) (by first | exact ⟨rfl, by decide⟩ | exact zix_nI (by omega) (by decide) | assumption) ?_
      refine J_topil (y := (if σ 98 st = 8 then σ 100 st else σ 87 s)) ?_ ?_
      · simp [zu] at *
        simp [*]
      refine R_iast hT dX9_setsService_164 (rk_lie hS) (rl_lie hS) (zix_nI hs (by decide)) ?_
      exact h5
    · refine J_aload_n (i := 0) hT dX9_setsService_149 rfl rfl ?_
      refine R_getP hT fX9_107 rfl dX9_setsService_150 (rk hS) (rp_second hS) ?_
      refine J_iload_n (i := 1) hT dX9_setsService_153 rfl rfl ?_
      refine R_iald hT dX9_setsService_154 (rk_second hS) (rl_second hS) (by first | exact ⟨rfl, by decide⟩ | exact zix_nI (by omega) (by decide) | assumption) ?_
      refine J_goto (tgt := 164) hT dX9_setsService_155 (by decide) ?_
      refine J_topil (y := (if σ 98 st = 8 then σ 100 st else σ 87 s)) ?_ ?_
      · simp [zu] at *
        simp [*]
      refine R_iast hT dX9_setsService_164 (rk_lie hS) (rl_lie hS) (zix_nI hs (by decide)) ?_
      exact h5
  have h3 : zJ τ (zFn τ (fun r μ' => r = none ∧ μ' = zA4 μ (setSF σ s st) π g) 0 0) 101 [some (.ref 67), some (.int (nI st)), some (.int (nI s)), none] [] (zA4 μ ((zu (zu (zu σ 82 s (if σ 98 st = 4 then σ 100 st else σ 82 s)) 83 s (if σ 98 st = 5 then σ 100 st else σ 83 s)) 85 s (if σ 98 st = 6 then σ 100 st else σ 85 s))) π g) 0 0 := by
    refine J_aload_n (i := 0) hT dX9_setsService_101 rfl rfl ?_
    refine R_getP hT fX9_65 rfl dX9_setsService_102 (rk hS) (rp_delay hS) ?_
    refine J_iload_n (i := 2) hT dX9_setsService_105 rfl rfl ?_
    refine J_aload_n (i := 0) hT dX9_setsService_106 rfl rfl ?_
    refine R_getP hT fX9_101 rfl dX9_setsService_107 (rk hS) (rp_kind hS) ?_
    refine J_iload_n (i := 1) hT dX9_setsService_110 rfl rfl ?_
    refine R_iald hT dX9_setsService_111 (rk_kind hS) (rl_kind hS) (by first | exact ⟨rfl, by decide⟩ | exact zix_nI (by omega) (by decide) | assumption) ?_
    refine J_bipush (v := 6) hT dX9_setsService_112 rfl ?_
    refine J_icmp_ne (tgt := 126) hT dX9_setsService_114 (by decide) (fun q114 => ?_) (fun q114 => ?_)
    · refine J_aload_n (i := 0) hT dX9_setsService_126 rfl rfl ?_
      refine R_getP hT fX9_65 rfl dX9_setsService_127 (rk hS) (rp_delay hS) ?_
      refine J_iload_n (i := 2) hT dX9_setsService_130 rfl rfl ?_
      refine R_iald hT dX9_setsService_131 (rk_delay hS) (rl_delay hS) (by first | exact ⟨rfl, by decide⟩ | exact zix_nI (by omega) (by decide) | assumption) ?_
      refine J_topil (y := (if σ 98 st = 6 then σ 101 st else σ 86 s)) ?_ ?_
      · simp [zu] at *
        simp [*]
      refine R_iast hT dX9_setsService_132 (rk_delay hS) (rl_delay hS) (zix_nI hs (by decide)) ?_
      exact h4
    · refine J_aload_n (i := 0) hT dX9_setsService_117 rfl rfl ?_
      refine R_getP hT fX9_110 rfl dX9_setsService_118 (rk hS) (rp_third hS) ?_
      refine J_iload_n (i := 1) hT dX9_setsService_121 rfl rfl ?_
      refine R_iald hT dX9_setsService_122 (rk_third hS) (rl_third hS) (by first | exact ⟨rfl, by decide⟩ | exact zix_nI (by omega) (by decide) | assumption) ?_
      refine J_goto (tgt := 132) hT dX9_setsService_123 (by decide) ?_
      refine J_topil (y := (if σ 98 st = 6 then σ 101 st else σ 86 s)) ?_ ?_
      · simp [zu] at *
        simp [*]
      refine R_iast hT dX9_setsService_132 (rk_delay hS) (rl_delay hS) (zix_nI hs (by decide)) ?_
      exact h4
  have h2 : zJ τ (zFn τ (fun r μ' => r = none ∧ μ' = zA4 μ (setSF σ s st) π g) 0 0) 69 [some (.ref 67), some (.int (nI st)), some (.int (nI s)), none] [] (zA4 μ ((zu (zu σ 82 s (if σ 98 st = 4 then σ 100 st else σ 82 s)) 83 s (if σ 98 st = 5 then σ 100 st else σ 83 s))) π g) 0 0 := by
    refine J_aload_n (i := 0) hT dX9_setsService_69 rfl rfl ?_
    refine R_getP hT fX9_62 rfl dX9_setsService_70 (rk hS) (rp_demand hS) ?_
    refine J_iload_n (i := 2) hT dX9_setsService_73 rfl rfl ?_
    refine J_aload_n (i := 0) hT dX9_setsService_74 rfl rfl ?_
    refine R_getP hT fX9_101 rfl dX9_setsService_75 (rk hS) (rp_kind hS) ?_
    refine J_iload_n (i := 1) hT dX9_setsService_78 rfl rfl ?_
    refine R_iald hT dX9_setsService_79 (rk_kind hS) (rl_kind hS) (by first | exact ⟨rfl, by decide⟩ | exact zix_nI (by omega) (by decide) | assumption) ?_
    refine J_bipush (v := 6) hT dX9_setsService_80 rfl ?_
    refine J_icmp_ne (tgt := 94) hT dX9_setsService_82 (by decide) (fun q82 => ?_) (fun q82 => ?_)
    · refine J_aload_n (i := 0) hT dX9_setsService_94 rfl rfl ?_
      refine R_getP hT fX9_62 rfl dX9_setsService_95 (rk hS) (rp_demand hS) ?_
      refine J_iload_n (i := 2) hT dX9_setsService_98 rfl rfl ?_
      refine R_iald hT dX9_setsService_99 (rk_demand hS) (rl_demand hS) (by first | exact ⟨rfl, by decide⟩ | exact zix_nI (by omega) (by decide) | assumption) ?_
      refine J_topil (y := (if σ 98 st = 6 then σ 100 st else σ 85 s)) ?_ ?_
      · simp [zu] at *
        simp [*]
      refine R_iast hT dX9_setsService_100 (rk_demand hS) (rl_demand hS) (zix_nI hs (by decide)) ?_
      exact h3
    · refine J_aload_n (i := 0) hT dX9_setsService_85 rfl rfl ?_
      refine R_getP hT fX9_107 rfl dX9_setsService_86 (rk hS) (rp_second hS) ?_
      refine J_iload_n (i := 1) hT dX9_setsService_89 rfl rfl ?_
      refine R_iald hT dX9_setsService_90 (rk_second hS) (rl_second hS) (by first | exact ⟨rfl, by decide⟩ | exact zix_nI (by omega) (by decide) | assumption) ?_
      refine J_goto (tgt := 100) hT dX9_setsService_91 (by decide) ?_
      refine J_topil (y := (if σ 98 st = 6 then σ 100 st else σ 85 s)) ?_ ?_
      · simp [zu] at *
        simp [*]
      refine R_iast hT dX9_setsService_100 (rk_demand hS) (rl_demand hS) (zix_nI hs (by decide)) ?_
      exact h3
  have h1 : zJ τ (zFn τ (fun r μ' => r = none ∧ μ' = zA4 μ (setSF σ s st) π g) 0 0) 38 [some (.ref 67), some (.int (nI st)), some (.int (nI s)), none] [] (zA4 μ ((zu σ 82 s (if σ 98 st = 4 then σ 100 st else σ 82 s))) π g) 0 0 := by
    refine J_aload_n (i := 0) hT dX9_setsService_38 rfl rfl ?_
    refine R_getP hT fX9_56 rfl dX9_setsService_39 (rk hS) (rp_limit hS) ?_
    refine J_iload_n (i := 2) hT dX9_setsService_42 rfl rfl ?_
    refine J_aload_n (i := 0) hT dX9_setsService_43 rfl rfl ?_
    refine R_getP hT fX9_101 rfl dX9_setsService_44 (rk hS) (rp_kind hS) ?_
    refine J_iload_n (i := 1) hT dX9_setsService_47 rfl rfl ?_
    refine R_iald hT dX9_setsService_48 (rk_kind hS) (rl_kind hS) (by first | exact ⟨rfl, by decide⟩ | exact zix_nI (by omega) (by decide) | assumption) ?_
    refine J_iconst (v := 5) hT dX9_setsService_49 rfl ?_
    refine J_icmp_ne (tgt := 62) hT dX9_setsService_50 (by decide) (fun q50 => ?_) (fun q50 => ?_)
    · refine J_aload_n (i := 0) hT dX9_setsService_62 rfl rfl ?_
      refine R_getP hT fX9_56 rfl dX9_setsService_63 (rk hS) (rp_limit hS) ?_
      refine J_iload_n (i := 2) hT dX9_setsService_66 rfl rfl ?_
      refine R_iald hT dX9_setsService_67 (rk_limit hS) (rl_limit hS) (by first | exact ⟨rfl, by decide⟩ | exact zix_nI (by omega) (by decide) | assumption) ?_
      refine J_topil (y := (if σ 98 st = 5 then σ 100 st else σ 83 s)) ?_ ?_
      · simp [zu] at *
        simp [*]
      refine R_iast hT dX9_setsService_68 (rk_limit hS) (rl_limit hS) (zix_nI hs (by decide)) ?_
      exact h2
    · refine J_aload_n (i := 0) hT dX9_setsService_53 rfl rfl ?_
      refine R_getP hT fX9_107 rfl dX9_setsService_54 (rk hS) (rp_second hS) ?_
      refine J_iload_n (i := 1) hT dX9_setsService_57 rfl rfl ?_
      refine R_iald hT dX9_setsService_58 (rk_second hS) (rl_second hS) (by first | exact ⟨rfl, by decide⟩ | exact zix_nI (by omega) (by decide) | assumption) ?_
      refine J_goto (tgt := 68) hT dX9_setsService_59 (by decide) ?_
      refine J_topil (y := (if σ 98 st = 5 then σ 100 st else σ 83 s)) ?_ ?_
      · simp [zu] at *
        simp [*]
      refine R_iast hT dX9_setsService_68 (rk_limit hS) (rl_limit hS) (zix_nI hs (by decide)) ?_
      exact h2
  have h0 : zJ τ (zFn τ (fun r μ' => r = none ∧ μ' = zA4 μ (setSF σ s st) π g) 0 0) 7 [some (.ref 67), some (.int (nI st)), some (.int (nI s)), none] [] (zA4 μ (σ) π g) 0 0 := by
    refine J_aload_n (i := 0) hT dX9_setsService_7 rfl rfl ?_
    refine R_getP hT fX9_53 rfl dX9_setsService_8 (rk hS) (rp_control hS) ?_
    refine J_iload_n (i := 2) hT dX9_setsService_11 rfl rfl ?_
    refine J_aload_n (i := 0) hT dX9_setsService_12 rfl rfl ?_
    refine R_getP hT fX9_101 rfl dX9_setsService_13 (rk hS) (rp_kind hS) ?_
    refine J_iload_n (i := 1) hT dX9_setsService_16 rfl rfl ?_
    refine R_iald hT dX9_setsService_17 (rk_kind hS) (rl_kind hS) (by first | exact ⟨rfl, by decide⟩ | exact zix_nI (by omega) (by decide) | assumption) ?_
    refine J_iconst (v := 4) hT dX9_setsService_18 rfl ?_
    refine J_icmp_ne (tgt := 31) hT dX9_setsService_19 (by decide) (fun q19 => ?_) (fun q19 => ?_)
    · refine J_aload_n (i := 0) hT dX9_setsService_31 rfl rfl ?_
      refine R_getP hT fX9_53 rfl dX9_setsService_32 (rk hS) (rp_control hS) ?_
      refine J_iload_n (i := 2) hT dX9_setsService_35 rfl rfl ?_
      refine R_iald hT dX9_setsService_36 (rk_control hS) (rl_control hS) (by first | exact ⟨rfl, by decide⟩ | exact zix_nI (by omega) (by decide) | assumption) ?_
      refine J_topil (y := (if σ 98 st = 4 then σ 100 st else σ 82 s)) ?_ ?_
      · simp [zu] at *
        simp [*]
      refine R_iast hT dX9_setsService_37 (rk_control hS) (rl_control hS) (zix_nI hs (by decide)) ?_
      exact h1
    · refine J_aload_n (i := 0) hT dX9_setsService_22 rfl rfl ?_
      refine R_getP hT fX9_107 rfl dX9_setsService_23 (rk hS) (rp_second hS) ?_
      refine J_iload_n (i := 1) hT dX9_setsService_26 rfl rfl ?_
      refine R_iald hT dX9_setsService_27 (rk_second hS) (rl_second hS) (by first | exact ⟨rfl, by decide⟩ | exact zix_nI (by omega) (by decide) | assumption) ?_
      refine J_goto (tgt := 37) hT dX9_setsService_28 (by decide) ?_
      refine J_topil (y := (if σ 98 st = 4 then σ 100 st else σ 82 s)) ?_ ?_
      · simp [zu] at *
        simp [*]
      refine R_iast hT dX9_setsService_37 (rk_control hS) (rl_control hS) (zix_nI hs (by decide)) ?_
      exact h1
  refine J_aload_n (i := 0) hT dX9_setsService_0 rfl rfl ?_
  refine R_getP hT fX9_104 rfl dX9_setsService_1 (rk hS) (rp_first hS) ?_
  refine J_iload_n (i := 1) hT dX9_setsService_4 rfl rfl ?_
  refine R_iald hT dX9_setsService_5 (rk_first hS) (rl_first hS) (by first | exact ⟨rfl, by decide⟩ | exact zix_nI (by omega) (by decide) | assumption) ?_
  refine J_topil (hf) ?_
  refine S_istore2 hT dX9_setsService_6 rfl rfl ?_
  exact h0

set_option maxRecDepth 100000 in
set_option maxHeartbeats 4000000 in
theorem c_X9_wouldHang {l : Launch} {Z : zZ} (hZ : zSt l Z) {μ : zMem} {σ : Nat → Nat → Int32} {π : Nat → Nat → Option Nat} {g : Nat → Nat → Int64} (hS : zRef μ π) {c n0 : Nat} (hc : c < 12) (hn0 : n0 ≤ 30) (hn : σ 67 3 = nI n0) : zCt l Z mX9_wouldHang 2 0 0 [.ref 67, .int (nI c)] (zA4 μ σ π g) (fun r μ' => r = some (.int (zbi (bt (belF σ false (whP σ n0)) c))) ∧ μ' = zA4 μ σ π g) := by
  refine zCt_of hZ mpX9_wouldHang (Nat.le_of_ble_eq_true rfl) (L := [some (.ref 67), some (.int (nI c)), none, none]) rfl (fun τ hY => ?_)
  have hT := hY.1
  have loop : ∀ n i, i + n = n0 → zJ τ (zFn τ (fun r μ' => r = some (.int (zbi (bt (belF σ false (whP σ n0)) c))) ∧ μ' = zA4 μ σ π g) 0 0) 4 [some (.ref 67), some (.int (nI c)), some (.int (whP σ i)), some (.int (nI i))] [] (zA4 μ (σ) π g) 0 0 := by
    intro n
    induction n with
    | zero =>
      intro i hi
      have : i = n0 := by omega
      subst this
      refine J_iload_n (i := 3) hT dX9_wouldHang_4 rfl rfl ?_
      refine J_aload_n (i := 0) hT dX9_wouldHang_5 rfl rfl ?_
      refine R_getI hT fX9_154 rfl dX9_wouldHang_6 (rk hS) ?_
      refine J_topil (hn) ?_
      refine J_icmp_ge (tgt := 55) hT dX9_wouldHang_9 (by decide) (fun _ => ?_) (fun q => absurd (nI_le (Nat.le_refl _) (by omega)) q)
      refine J_aload_n (i := 0) hT dX9_wouldHang_55 rfl rfl ?_
      refine J_iload_n (i := 2) hT dX9_wouldHang_56 rfl rfl ?_
      refine J_iconst (v := 0) hT dX9_wouldHang_57 rfl ?_
      refine R_callV1 (ci := 9) hY dX9_wouldHang_58 mfX9_below miX9_below msX9_below kX9_221 ⟨by decide, rfl⟩ (rk hS) (c_X9_below hZ hS (h := false)) rfl (by decide) rfl rfl (Nat.le_of_ble_eq_true rfl) (Nat.le_refl _) (Nat.le_refl _) ?_
      refine J_iload_n (i := 1) hT dX9_wouldHang_61 rfl rfl ?_
      refine R_callS1 hY dX9_wouldHang_62 mfX9_has mtX9_has kX9_197 (c_X9_has hZ (by omega)) rfl (by decide) rfl rfl (Nat.le_of_ble_eq_true rfl) (Nat.le_refl _) (Nat.le_refl _) ?_
      exact J_iret hT dX9_wouldHang_65 rfl (zbi_nar _) (⟨rfl, rfl⟩) (Nat.le_refl _) (Nat.le_refl _)
    | succ n ih =>
      intro i hi
      refine J_iload_n (i := 3) hT dX9_wouldHang_4 rfl rfl ?_
      refine J_aload_n (i := 0) hT dX9_wouldHang_5 rfl rfl ?_
      refine R_getI hT fX9_154 rfl dX9_wouldHang_6 (rk hS) ?_
      refine J_topil (hn) ?_
      refine J_icmp_ge (tgt := 55) hT dX9_wouldHang_9 (by decide) (fun q => absurd q (Int32.not_le.mpr (nI_lt (a := i) (b := n0) (by omega) (by omega)))) (fun _ => ?_)
      refine J_iload_n (i := 2) hT dX9_wouldHang_12 rfl rfl ?_
      refine J_aload_n (i := 0) hT dX9_wouldHang_13 rfl rfl ?_
      refine R_getP hT fX9_13 rfl dX9_wouldHang_14 (rk hS) (rp_made hS) ?_
      refine J_iload_n (i := 3) hT dX9_wouldHang_17 rfl rfl ?_
      refine R_iald hT dX9_wouldHang_18 (rk_made hS) (rl_made hS) (by first | exact ⟨rfl, by decide⟩ | exact zix_nI (by omega) (by decide) | assumption) ?_
      refine J_sipush (v := 20000) hT dX9_wouldHang_19 rfl ?_
      refine J_sipush (v := 20999) hT dX9_wouldHang_22 rfl ?_
      refine R_callS1 hY dX9_wouldHang_25 mfX9_isWithin mtX9_isWithin kX9_255 (c_X9_isWithin hZ) rfl (by decide) rfl rfl (Nat.le_of_ble_eq_true rfl) (Nat.le_refl _) (Nat.le_refl _) ?_
      refine J_if_eq (tgt := 46) hT dX9_wouldHang_28 (by decide) (fun q28 => ?_) (fun q28 => ?_)
      · refine J_iconst (v := 0) hT dX9_wouldHang_46 rfl ?_
        refine J_topil (y := if 20000 ≤ σ 69 i ∧ σ 69 i ≤ 20999 then (1 : Int32) <<< ((σ 69 i - 20000) &&& 31) else 0) ?_ ?_
        · simp only [zbiw_0, Decidable.not_not] at q28
          first | rw [if_pos q28] | rw [if_neg q28]
        refine J_ior hT dX9_wouldHang_47 ?_
        refine S_istore2 hT dX9_wouldHang_48 rfl rfl ?_
        refine S_iinc3 hT dX9_wouldHang_49 (nI_inc _) rfl ?_
        refine J_goto (tgt := 4) hT dX9_wouldHang_52 (by decide) ?_
        exact ih (i + 1) (by omega)
      · refine J_iconst (v := 1) hT dX9_wouldHang_31 rfl ?_
        refine J_aload_n (i := 0) hT dX9_wouldHang_32 rfl rfl ?_
        refine R_getP hT fX9_13 rfl dX9_wouldHang_33 (rk hS) (rp_made hS) ?_
        refine J_iload_n (i := 3) hT dX9_wouldHang_36 rfl rfl ?_
        refine R_iald hT dX9_wouldHang_37 (rk_made hS) (rl_made hS) (by first | exact ⟨rfl, by decide⟩ | exact zix_nI (by omega) (by decide) | assumption) ?_
        refine J_sipush (v := 20000) hT dX9_wouldHang_38 rfl ?_
        refine J_isub hT dX9_wouldHang_41 ?_
        refine J_ishl hT dX9_wouldHang_42 ?_
        refine J_goto (tgt := 47) hT dX9_wouldHang_43 (by decide) ?_
        refine J_topil (y := if 20000 ≤ σ 69 i ∧ σ 69 i ≤ 20999 then (1 : Int32) <<< ((σ 69 i - 20000) &&& 31) else 0) ?_ ?_
        · simp only [zbiw_0, Decidable.not_not] at q28
          first | rw [if_pos q28] | rw [if_neg q28]
        refine J_ior hT dX9_wouldHang_47 ?_
        refine S_istore2 hT dX9_wouldHang_48 rfl rfl ?_
        refine S_iinc3 hT dX9_wouldHang_49 (nI_inc _) rfl ?_
        refine J_goto (tgt := 4) hT dX9_wouldHang_52 (by decide) ?_
        exact ih (i + 1) (by omega)
  refine J_iconst (v := 0) hT dX9_wouldHang_0 rfl ?_
  refine S_istore2 hT dX9_wouldHang_1 rfl rfl ?_
  refine J_iconst (v := 0) hT dX9_wouldHang_2 rfl ?_
  refine S_istore3 hT dX9_wouldHang_3 rfl rfl ?_
  exact loop n0 0 (Nat.zero_add _)
